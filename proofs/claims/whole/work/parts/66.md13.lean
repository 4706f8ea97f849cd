/-! The reference: a book put from place to place. Written by wip/whole/tools/mk_md13.py. -/
/-- a cell of the gloss at t -/
def inGl (t a k : Int) : Prop := (780 ≤ a ∧ a ≤ 783 ∧ k = t) ∨ ((a = 784 ∨ a = 785) ∧ 8 * t ≤ k ∧ k < 8 * t + 8)
/-- a cell of the book at c -/
def inSl (c a k : Int) : Prop := ((a = 776 ∨ a = 779 ∨ a = 786 ∨ a = 787) ∧ k = c) ∨ ((a = 777 ∨ a = 778) ∧ 40 * c ≤ k ∧ k < 40 * c + 40) ∨ (780 ≤ a ∧ a ≤ 783 ∧ 20 * c ≤ k ∧ k < 20 * c + 20) ∨ ((a = 784 ∨ a = 785) ∧ 160 * c ≤ k ∧ k < 160 * c + 160) ∨ ((a = 788 ∨ a = 789) ∧ 6 * c ≤ k ∧ k < 6 * c + 6)
def glF (V V' : Int → Int → Int) (t : Int) : Prop := ∀ a k, ¬ inGl t a k → V' a k = V a k
def sloF (V V' : Int → Int → Int) (c : Int) : Prop := ∀ a k, ¬ inSl c a k → V' a k = V a k
theorem sloF.trans {V V1 V2 : Int → Int → Int} {c : Int} (h : sloF V V1 c) (h2 : sloF V1 V2 c) : sloF V V2 c := fun a k hk => (h2 a k hk).trans (h a k hk)
theorem glF.sl {V V' : Int → Int → Int} {c g : Int} (h : glF V V' (20 * c + g)) (g0 : 0 ≤ g) (g1 : g < 20) : sloF V V' c := fun a k hk => h a k (fun z => hk (by unfold inGl at z; unfold inSl; omega))
theorem sloF.e {V V' : Int → Int → Int} {c b : Int} (h : sloF V V' c) (hne : b ≠ c) : slE V' b V b := by
  refine ⟨h _ _ (by unfold inSl; omega), fun i i0 i1 => ⟨h _ _ (by unfold inSl; omega), h _ _ (by unfold inSl; omega)⟩, h _ _ (by unfold inSl; omega), fun g g0 g1 => ⟨h _ _ (by unfold inSl; omega), h _ _ (by unfold inSl; omega), h _ _ (by unfold inSl; omega), h _ _ (by unfold inSl; omega), fun i i0 i1 => ⟨h _ _ (by unfold inSl; omega), h _ _ (by unfold inSl; omega)⟩⟩, h _ _ (by unfold inSl; omega), h _ _ (by unfold inSl; omega), fun j j0 j1 => ⟨h _ _ (by unfold inSl; omega), h _ _ (by unfold inSl; omega)⟩⟩
theorem sloF.o {V V' : Int → Int → Int} {c a : Int} (h : sloF V V' c) (ha : a < 776 ∨ 789 < a) : V' a = V a := funext fun k => h a k (by unfold inSl; omega)
theorem gup_c {V : Int → Int → Int} {a k x a' k' : Int} (h : a' ≠ a ∨ k' ≠ k) : gup V a k x a' k' = V a' k' := if_neg (fun z => by omega)
section MD13
variable {l : Launch} {E : gE} {d : Nat} {K : List gK} {R V : Int → Int → Int} {f t i w n x : Int} {Q : gQ} {S : gbS}
set_option maxRecDepth 4000 in
theorem m_putGloss (hM : mdK K R) (hf : 0 ≤ f ∧ f < 220) (ht : 0 ≤ t ∧ t < 220) (hne : f ≠ t) (hQ : ∀ V', glE V' t V f → glF V V' t → Q none (K, R, V')) : gC l E (d + 1) iX12_putGloss [ga 775, gi f, gi t] (K, R, V) Q := by
  refine gC_of kX12_putGloss (ls := [some (ga 775), some (gi f), some (gi t), none]) rfl (Nat.le_of_ble_eq_true rfl) ?_
  have lp : ∀ (jj : Nat) (i : Int) (V1 : Int → Int → Int) (bc bs : Nat), (8 : Int) - i < (jj : Int) → 0 ≤ i → i ≤ 8 → (V1 780 t = V 780 f ∧ V1 781 t = V 781 f ∧ V1 782 t = V 782 f ∧ V1 783 t = V 783 f) → (∀ j : Int, 0 ≤ j → j < i → V1 784 (8 * t + j) = V 784 (8 * f + j) ∧ V1 785 (8 * t + j) = V 785 (8 * f + j)) → glF V V1 t → gX l E (gFm E (d + 1) iX12_putGloss Q) 50 [some (ga 775), some (gi f), some (gi t), some (gi i)] [] (K, R, V1) bc bs := by
    intro jj
    induction jj with
    | zero =>
      intro i V1 bc bs hj q0 q1 hs1 hr1 hg1
      exfalso; omega
    | succ jj ih =>
      intro i V1 bc bs hj q0 q1 hs1 hr1 hg1
      refine gX_iloadn dX12_putGloss_50 rfl ?_
      refine gX_bipush dX12_putGloss_51 (by decide) ⟨by decide, by decide⟩ ?_
      refine gX_icmpge (tgt := 106) dX12_putGloss_53 (by decide) (fun w1 => ?_) (fun w1 => ?_)
      · refine gX_vret dX12_putGloss_106 rfl ?_
        exact hQ V1 ⟨hs1.1, hs1.2.1, hs1.2.2.1, hs1.2.2.2, fun j j0 j1 => hr1 j j0 (by omega)⟩ hg1
      · refine gX_aloadn dX12_putGloss_56 rfl ?_
        refine gX_gR 9 dX12_putGloss_57 fdX12_34 rfl rfl hM.1 (mR9 hM) ?_
        refine gX_bipush dX12_putGloss_60 (by decide) ⟨by decide, by decide⟩ ?_
        refine gX_iloadn dX12_putGloss_62 rfl ?_
        refine gX_imul dX12_putGloss_63 ⟨by omega, by omega⟩ ?_
        refine gX_iloadn dX12_putGloss_64 rfl ?_
        refine gX_iadd dX12_putGloss_65 ⟨by omega, by omega⟩ ?_
        refine gX_aloadn dX12_putGloss_66 rfl ?_
        refine gX_gR 9 dX12_putGloss_67 fdX12_34 rfl rfl hM.1 (mR9 hM) ?_
        refine gX_bipush dX12_putGloss_70 (by decide) ⟨by decide, by decide⟩ ?_
        refine gX_iloadn dX12_putGloss_72 rfl ?_
        refine gX_imul dX12_putGloss_73 ⟨by omega, by omega⟩ ?_
        refine gX_iloadn dX12_putGloss_74 rfl ?_
        refine gX_iadd dX12_putGloss_75 ⟨by omega, by omega⟩ ?_
        refine gX_iald dX12_putGloss_76 (mA9 hM) (by omega) (by omega) ?_
        rw [show V1 784 (8 * f + i) = V 784 (8 * f + i) from hg1 _ _ (by unfold inGl; omega)]
        refine gX_iast dX12_putGloss_77 (mA9 hM) (by omega) (by omega) ?_
        refine gX_aloadn dX12_putGloss_78 rfl ?_
        refine gX_gR 10 dX12_putGloss_79 fdX12_37 rfl rfl hM.1 (mR10 hM) ?_
        refine gX_bipush dX12_putGloss_82 (by decide) ⟨by decide, by decide⟩ ?_
        refine gX_iloadn dX12_putGloss_84 rfl ?_
        refine gX_imul dX12_putGloss_85 ⟨by omega, by omega⟩ ?_
        refine gX_iloadn dX12_putGloss_86 rfl ?_
        refine gX_iadd dX12_putGloss_87 ⟨by omega, by omega⟩ ?_
        refine gX_aloadn dX12_putGloss_88 rfl ?_
        refine gX_gR 10 dX12_putGloss_89 fdX12_37 rfl rfl hM.1 (mR10 hM) ?_
        refine gX_bipush dX12_putGloss_92 (by decide) ⟨by decide, by decide⟩ ?_
        refine gX_iloadn dX12_putGloss_94 rfl ?_
        refine gX_imul dX12_putGloss_95 ⟨by omega, by omega⟩ ?_
        refine gX_iloadn dX12_putGloss_96 rfl ?_
        refine gX_iadd dX12_putGloss_97 ⟨by omega, by omega⟩ ?_
        refine gX_iald dX12_putGloss_98 (mA10 hM) (by omega) (by omega) ?_
        rw [show gup V1 784 (8 * t + i) (V 784 (8 * f + i)) 785 (8 * f + i) = V 785 (8 * f + i) by rw [gup_ne (by omega)]; exact hg1 _ _ (by unfold inGl; omega)]
        refine gX_iast dX12_putGloss_99 (mA10 hM) (by omega) (by omega) ?_
        refine gX_iinc dX12_putGloss_100 rfl (show (3 : Nat) < 4 from by decide) ⟨by omega, by omega⟩ (ls2 := [some (ga 775), some (gi f), some (gi t), some (gi (i + 1))]) rfl ?_
        refine gX_goto (tgt := 50) dX12_putGloss_103 (by decide) ?_
        refine ih (i + 1) _ _ _ (by omega) (by omega) (by omega) ⟨?_, ?_, ?_, ?_⟩ (fun j j0 j1 => ?_) (fun a k hk => ?_)
        · rw [gup_ne (by omega), gup_ne (by omega)]; exact hs1.1
        · rw [gup_ne (by omega), gup_ne (by omega)]; exact hs1.2.1
        · rw [gup_ne (by omega), gup_ne (by omega)]; exact hs1.2.2.1
        · rw [gup_ne (by omega), gup_ne (by omega)]; exact hs1.2.2.2
        · by_cases ej : j = i
          · subst ej
            exact ⟨by rw [gup_ne (by omega)]; exact gup_s, gup_s⟩
          · exact ⟨by rw [gup_ne (by omega), gup_k (by omega)]; exact (hr1 j j0 (by omega)).1, by rw [gup_k (by omega), gup_ne (by omega)]; exact (hr1 j j0 (by omega)).2⟩
        · rw [gup_c (by unfold inGl at hk; omega), gup_c (by unfold inGl at hk; omega)]; exact hg1 a k hk
  refine gX_aloadn dX12_putGloss_0 rfl ?_
  refine gX_gR 5 dX12_putGloss_1 fdX12_22 rfl rfl hM.1 (mR5 hM) ?_
  refine gX_iloadn dX12_putGloss_4 rfl ?_
  refine gX_aloadn dX12_putGloss_5 rfl ?_
  refine gX_gR 5 dX12_putGloss_6 fdX12_22 rfl rfl hM.1 (mR5 hM) ?_
  refine gX_iloadn dX12_putGloss_9 rfl ?_
  refine gX_iald dX12_putGloss_10 (mA5 hM) (by omega) (by omega) ?_
  refine gX_iast dX12_putGloss_11 (mA5 hM) (by omega) (by omega) ?_
  refine gX_aloadn dX12_putGloss_12 rfl ?_
  refine gX_gR 6 dX12_putGloss_13 fdX12_25 rfl rfl hM.1 (mR6 hM) ?_
  refine gX_iloadn dX12_putGloss_16 rfl ?_
  refine gX_aloadn dX12_putGloss_17 rfl ?_
  refine gX_gR 6 dX12_putGloss_18 fdX12_25 rfl rfl hM.1 (mR6 hM) ?_
  refine gX_iloadn dX12_putGloss_21 rfl ?_
  refine gX_iald dX12_putGloss_22 (mA6 hM) (by omega) (by omega) ?_
  rw [show (gup V 780 t (V 780 f)) 781 f = V 781 f by rw [gup_ne (by omega)]]
  refine gX_iast dX12_putGloss_23 (mA6 hM) (by omega) (by omega) ?_
  refine gX_aloadn dX12_putGloss_24 rfl ?_
  refine gX_gR 7 dX12_putGloss_25 fdX12_28 rfl rfl hM.1 (mR7 hM) ?_
  refine gX_iloadn dX12_putGloss_28 rfl ?_
  refine gX_aloadn dX12_putGloss_29 rfl ?_
  refine gX_gR 7 dX12_putGloss_30 fdX12_28 rfl rfl hM.1 (mR7 hM) ?_
  refine gX_iloadn dX12_putGloss_33 rfl ?_
  refine gX_iald dX12_putGloss_34 (mA7 hM) (by omega) (by omega) ?_
  rw [show (gup (gup V 780 t (V 780 f)) 781 t (V 781 f)) 782 f = V 782 f by rw [gup_ne (by omega), gup_ne (by omega)]]
  refine gX_iast dX12_putGloss_35 (mA7 hM) (by omega) (by omega) ?_
  refine gX_aloadn dX12_putGloss_36 rfl ?_
  refine gX_gR 8 dX12_putGloss_37 fdX12_31 rfl rfl hM.1 (mR8 hM) ?_
  refine gX_iloadn dX12_putGloss_40 rfl ?_
  refine gX_aloadn dX12_putGloss_41 rfl ?_
  refine gX_gR 8 dX12_putGloss_42 fdX12_31 rfl rfl hM.1 (mR8 hM) ?_
  refine gX_iloadn dX12_putGloss_45 rfl ?_
  refine gX_iald dX12_putGloss_46 (mA8 hM) (by omega) (by omega) ?_
  rw [show (gup (gup (gup V 780 t (V 780 f)) 781 t (V 781 f)) 782 t (V 782 f)) 783 f = V 783 f by rw [gup_ne (by omega), gup_ne (by omega), gup_ne (by omega)]]
  refine gX_iast dX12_putGloss_47 (mA8 hM) (by omega) (by omega) ?_
  refine gX_iconst dX12_putGloss_48 ⟨by decide, by decide⟩ ?_
  refine gX_istoren dX12_putGloss_49 (show (3 : Nat) < 4 from by decide) (ls2 := [some (ga 775), some (gi f), some (gi t), some (gi 0)]) rfl ?_
  refine lp 9 0 _ _ _ (by omega) (by omega) (by omega) ⟨?_, ?_, ?_, gup_s⟩ (fun j j0 j1 => by omega) (fun a k hk => ?_)
  · rw [gup_ne (by omega), gup_ne (by omega), gup_ne (by omega)]; exact gup_s
  · rw [gup_ne (by omega), gup_ne (by omega)]; exact gup_s
  · rw [gup_ne (by omega)]; exact gup_s
  · rw [gup_c (by unfold inGl at hk; omega), gup_c (by unfold inGl at hk; omega), gup_c (by unfold inGl at hk; omega), gup_c (by unfold inGl at hk; omega)]
set_option maxRecDepth 4000 in
theorem m_putBook (hM : mdK K R) (hf : 0 ≤ f ∧ f ≤ 10) (ht : 0 ≤ t ∧ t ≤ 10) (hne : f ≠ t) (hQ : ∀ V', slE V' t V f → sloF V V' t → Q none (K, R, V')) : gC l E (d + 2) iX12_putBook [ga 775, gi f, gi t] (K, R, V) Q := by
  refine gC_of kX12_putBook (ls := [some (ga 775), some (gi f), some (gi t), none]) rfl (Nat.le_of_ble_eq_true rfl) ?_
  have l1 : ∀ (jj : Nat) (i : Int) (V1 : Int → Int → Int) (bc bs : Nat), (40 : Int) - i < (jj : Int) → 0 ≤ i → i ≤ 40 → V1 776 t = V 776 f → (∀ j : Int, 0 ≤ j → j < i → V1 777 (40 * t + j) = V 777 (40 * f + j) ∧ V1 778 (40 * t + j) = V 778 (40 * f + j)) → sloF V V1 t → gX l E (gFm E (d + 2) iX12_putBook Q) 14 [some (ga 775), some (gi f), some (gi t), some (gi i)] [] (K, R, V1) bc bs := by
    intro jj
    induction jj with
    | zero =>
      intro i V1 bc bs hj q0 q1 a1 a2 a3
      exfalso; omega
    | succ jj ih =>
      intro i V1 bc bs hj q0 q1 a1 a2 a3
      refine gX_iloadn dX12_putBook_14 rfl ?_
      refine gX_bipush dX12_putBook_15 (by decide) ⟨by decide, by decide⟩ ?_
      refine gX_icmpge (tgt := 70) dX12_putBook_17 (by decide) (fun z1 => ?_) (fun z1 => ?_)
      · refine gX_aloadn dX12_putBook_70 rfl ?_
        refine gX_gR 4 dX12_putBook_71 fdX12_19 rfl rfl hM.1 (mR4 hM) ?_
        refine gX_iloadn dX12_putBook_74 rfl ?_
        refine gX_aloadn dX12_putBook_75 rfl ?_
        refine gX_gR 4 dX12_putBook_76 fdX12_19 rfl rfl hM.1 (mR4 hM) ?_
        refine gX_iloadn dX12_putBook_79 rfl ?_
        refine gX_iald dX12_putBook_80 (mA4 hM) (by omega) (by omega) ?_
        rw [show V1 779 f = V 779 f from a3 _ _ (by unfold inSl; omega)]
        refine gX_iast dX12_putBook_81 (mA4 hM) (by omega) (by omega) ?_
        refine gX_iconst dX12_putBook_82 ⟨by decide, by decide⟩ ?_
        refine gX_istoren dX12_putBook_83 (show (3 : Nat) < 4 from by decide) (ls2 := [some (ga 775), some (gi f), some (gi t), some (gi 0)]) rfl ?_
        have l2 : ∀ (jj : Nat) (i : Int) (V2 : Int → Int → Int) (bc bs : Nat), (20 : Int) - i < (jj : Int) → 0 ≤ i → i ≤ 20 → V2 776 t = V 776 f → (∀ j : Int, 0 ≤ j → j < 40 → V2 777 (40 * t + j) = V 777 (40 * f + j) ∧ V2 778 (40 * t + j) = V 778 (40 * f + j)) → V2 779 t = V 779 f → (∀ g : Int, 0 ≤ g → g < i → glE V2 (20 * t + g) V (20 * f + g)) → sloF V V2 t → gX l E (gFm E (d + 2) iX12_putBook Q) 84 [some (ga 775), some (gi f), some (gi t), some (gi i)] [] (K, R, V2) bc bs := by
          intro jj
          induction jj with
          | zero =>
            intro i V2 bc bs hj q0 q1 a1 a2 a3 a4 a5
            exfalso; omega
          | succ jj ih =>
            intro i V2 bc bs hj q0 q1 a1 a2 a3 a4 a5
            refine gX_iloadn dX12_putBook_84 rfl ?_
            refine gX_bipush dX12_putBook_85 (by decide) ⟨by decide, by decide⟩ ?_
            refine gX_icmpge (tgt := 112) dX12_putBook_87 (by decide) (fun b1 => ?_) (fun b1 => ?_)
            · refine gX_aloadn dX12_putBook_112 rfl ?_
              refine gX_gR 11 dX12_putBook_113 fdX12_40 rfl rfl hM.1 (mR11 hM) ?_
              refine gX_iloadn dX12_putBook_116 rfl ?_
              refine gX_aloadn dX12_putBook_117 rfl ?_
              refine gX_gR 11 dX12_putBook_118 fdX12_40 rfl rfl hM.1 (mR11 hM) ?_
              refine gX_iloadn dX12_putBook_121 rfl ?_
              refine gX_iald dX12_putBook_122 (mA11 hM) (by omega) (by omega) ?_
              rw [show V2 786 f = V 786 f from a5 _ _ (by unfold inSl; omega)]
              refine gX_iast dX12_putBook_123 (mA11 hM) (by omega) (by omega) ?_
              refine gX_aloadn dX12_putBook_124 rfl ?_
              refine gX_gR 12 dX12_putBook_125 fdX12_43 rfl rfl hM.1 (mR12 hM) ?_
              refine gX_iloadn dX12_putBook_128 rfl ?_
              refine gX_aloadn dX12_putBook_129 rfl ?_
              refine gX_gR 12 dX12_putBook_130 fdX12_43 rfl rfl hM.1 (mR12 hM) ?_
              refine gX_iloadn dX12_putBook_133 rfl ?_
              refine gX_iald dX12_putBook_134 (mA12 hM) (by omega) (by omega) ?_
              rw [show gup V2 786 t (V 786 f) 787 f = V 787 f by rw [gup_ne (by omega)]; exact a5 _ _ (by unfold inSl; omega)]
              refine gX_iast dX12_putBook_135 (mA12 hM) (by omega) (by omega) ?_
              refine gX_iconst dX12_putBook_136 ⟨by decide, by decide⟩ ?_
              refine gX_istoren dX12_putBook_137 (show (3 : Nat) < 4 from by decide) (ls2 := [some (ga 775), some (gi f), some (gi t), some (gi 0)]) rfl ?_
              have l3 : ∀ (jj : Nat) (i : Int) (V3 : Int → Int → Int) (bc bs : Nat), (6 : Int) - i < (jj : Int) → 0 ≤ i → i ≤ 6 → V3 776 t = V 776 f → (∀ j : Int, 0 ≤ j → j < 40 → V3 777 (40 * t + j) = V 777 (40 * f + j) ∧ V3 778 (40 * t + j) = V 778 (40 * f + j)) → V3 779 t = V 779 f → (∀ g : Int, 0 ≤ g → g < 20 → glE V3 (20 * t + g) V (20 * f + g)) → V3 786 t = V 786 f ∧ V3 787 t = V 787 f → (∀ j : Int, 0 ≤ j → j < i → V3 788 (6 * t + j) = V 788 (6 * f + j) ∧ V3 789 (6 * t + j) = V 789 (6 * f + j)) → sloF V V3 t → gX l E (gFm E (d + 2) iX12_putBook Q) 138 [some (ga 775), some (gi f), some (gi t), some (gi i)] [] (K, R, V3) bc bs := by
                intro jj
                induction jj with
                | zero =>
                  intro i V3 bc bs hj q0 q1 a1 a2 a3 a4 a5 a6 a7
                  exfalso; omega
                | succ jj ih =>
                  intro i V3 bc bs hj q0 q1 a1 a2 a3 a4 a5 a6 a7
                  refine gX_iloadn dX12_putBook_138 rfl ?_
                  refine gX_bipush dX12_putBook_139 (by decide) ⟨by decide, by decide⟩ ?_
                  refine gX_icmpge (tgt := 194) dX12_putBook_141 (by decide) (fun c1 => ?_) (fun c1 => ?_)
                  · refine gX_vret dX12_putBook_194 rfl ?_
                    exact hQ V3 ⟨a1, fun j j0 j1 => a2 j j0 j1, a3, fun g g0 g1 => a4 g g0 g1, a5.1, a5.2, fun j j0 j1 => a6 j j0 (by omega)⟩ a7
                  · refine gX_aloadn dX12_putBook_144 rfl ?_
                    refine gX_gR 13 dX12_putBook_145 fdX12_46 rfl rfl hM.1 (mR13 hM) ?_
                    refine gX_bipush dX12_putBook_148 (by decide) ⟨by decide, by decide⟩ ?_
                    refine gX_iloadn dX12_putBook_150 rfl ?_
                    refine gX_imul dX12_putBook_151 ⟨by omega, by omega⟩ ?_
                    refine gX_iloadn dX12_putBook_152 rfl ?_
                    refine gX_iadd dX12_putBook_153 ⟨by omega, by omega⟩ ?_
                    refine gX_aloadn dX12_putBook_154 rfl ?_
                    refine gX_gR 13 dX12_putBook_155 fdX12_46 rfl rfl hM.1 (mR13 hM) ?_
                    refine gX_bipush dX12_putBook_158 (by decide) ⟨by decide, by decide⟩ ?_
                    refine gX_iloadn dX12_putBook_160 rfl ?_
                    refine gX_imul dX12_putBook_161 ⟨by omega, by omega⟩ ?_
                    refine gX_iloadn dX12_putBook_162 rfl ?_
                    refine gX_iadd dX12_putBook_163 ⟨by omega, by omega⟩ ?_
                    refine gX_iald dX12_putBook_164 (mA13 hM) (by omega) (by omega) ?_
                    rw [show V3 788 (6 * f + i) = V 788 (6 * f + i) from a7 _ _ (by unfold inSl; omega)]
                    refine gX_iast dX12_putBook_165 (mA13 hM) (by omega) (by omega) ?_
                    refine gX_aloadn dX12_putBook_166 rfl ?_
                    refine gX_gR 14 dX12_putBook_167 fdX12_49 rfl rfl hM.1 (mR14 hM) ?_
                    refine gX_bipush dX12_putBook_170 (by decide) ⟨by decide, by decide⟩ ?_
                    refine gX_iloadn dX12_putBook_172 rfl ?_
                    refine gX_imul dX12_putBook_173 ⟨by omega, by omega⟩ ?_
                    refine gX_iloadn dX12_putBook_174 rfl ?_
                    refine gX_iadd dX12_putBook_175 ⟨by omega, by omega⟩ ?_
                    refine gX_aloadn dX12_putBook_176 rfl ?_
                    refine gX_gR 14 dX12_putBook_177 fdX12_49 rfl rfl hM.1 (mR14 hM) ?_
                    refine gX_bipush dX12_putBook_180 (by decide) ⟨by decide, by decide⟩ ?_
                    refine gX_iloadn dX12_putBook_182 rfl ?_
                    refine gX_imul dX12_putBook_183 ⟨by omega, by omega⟩ ?_
                    refine gX_iloadn dX12_putBook_184 rfl ?_
                    refine gX_iadd dX12_putBook_185 ⟨by omega, by omega⟩ ?_
                    refine gX_iald dX12_putBook_186 (mA14 hM) (by omega) (by omega) ?_
                    rw [show gup V3 788 (6 * t + i) (V 788 (6 * f + i)) 789 (6 * f + i) = V 789 (6 * f + i) by rw [gup_ne (by omega)]; exact a7 _ _ (by unfold inSl; omega)]
                    refine gX_iast dX12_putBook_187 (mA14 hM) (by omega) (by omega) ?_
                    refine gX_iinc dX12_putBook_188 rfl (show (3 : Nat) < 4 from by decide) ⟨by omega, by omega⟩ (ls2 := [some (ga 775), some (gi f), some (gi t), some (gi (i + 1))]) rfl ?_
                    refine gX_goto (tgt := 138) dX12_putBook_191 (by decide) ?_
                    refine ih (i + 1) _ _ _ (by omega) (by omega) (by omega) ?_ (fun j j0 j1 => ?_) ?_ (fun g g0 g1 => ?_) ⟨?_, ?_⟩ (fun j j0 j1 => ?_) (fun a k hk => ?_)
                    · rw [gup_ne (by omega), gup_ne (by omega)]; exact a1
                    · exact ⟨by rw [gup_ne (by omega), gup_ne (by omega)]; exact (a2 j j0 j1).1, by rw [gup_ne (by omega), gup_ne (by omega)]; exact (a2 j j0 j1).2⟩
                    · rw [gup_ne (by omega), gup_ne (by omega)]; exact a3
                    · have z := a4 g g0 g1
                      exact ⟨by rw [gup_ne (by omega), gup_ne (by omega)]; exact z.1, by rw [gup_ne (by omega), gup_ne (by omega)]; exact z.2.1, by rw [gup_ne (by omega), gup_ne (by omega)]; exact z.2.2.1, by rw [gup_ne (by omega), gup_ne (by omega)]; exact z.2.2.2.1, fun j j0 j1 => ⟨by rw [gup_ne (by omega), gup_ne (by omega)]; exact (z.2.2.2.2 j j0 j1).1, by rw [gup_ne (by omega), gup_ne (by omega)]; exact (z.2.2.2.2 j j0 j1).2⟩⟩
                    · rw [gup_ne (by omega), gup_ne (by omega)]; exact a5.1
                    · rw [gup_ne (by omega), gup_ne (by omega)]; exact a5.2
                    · by_cases ej : j = i
                      · subst ej
                        exact ⟨by rw [gup_ne (by omega)]; exact gup_s, gup_s⟩
                      · exact ⟨by rw [gup_ne (by omega), gup_k (by omega)]; exact (a6 j j0 (by omega)).1, by rw [gup_k (by omega), gup_ne (by omega)]; exact (a6 j j0 (by omega)).2⟩
                    · rw [gup_c (by unfold inSl at hk; omega), gup_c (by unfold inSl at hk; omega)]; exact a7 a k hk
              refine l3 7 0 _ _ _ (by omega) (by omega) (by omega) ?_ (fun j j0 j1 => ?_) ?_ (fun g g0 g1 => ?_) ⟨?_, gup_s⟩ (fun j j0 j1 => by omega) (fun a k hk => ?_)
              · rw [gup_ne (by omega), gup_ne (by omega)]; exact a1
              · exact ⟨by rw [gup_ne (by omega), gup_ne (by omega)]; exact (a2 j j0 j1).1, by rw [gup_ne (by omega), gup_ne (by omega)]; exact (a2 j j0 j1).2⟩
              · rw [gup_ne (by omega), gup_ne (by omega)]; exact a3
              · have z := a4 g g0 (by omega)
                exact ⟨by rw [gup_ne (by omega), gup_ne (by omega)]; exact z.1, by rw [gup_ne (by omega), gup_ne (by omega)]; exact z.2.1, by rw [gup_ne (by omega), gup_ne (by omega)]; exact z.2.2.1, by rw [gup_ne (by omega), gup_ne (by omega)]; exact z.2.2.2.1, fun j j0 j1 => ⟨by rw [gup_ne (by omega), gup_ne (by omega)]; exact (z.2.2.2.2 j j0 j1).1, by rw [gup_ne (by omega), gup_ne (by omega)]; exact (z.2.2.2.2 j j0 j1).2⟩⟩
              · rw [gup_ne (by omega)]; exact gup_s
              · rw [gup_c (by unfold inSl at hk; omega), gup_c (by unfold inSl at hk; omega)]; exact a5 a k hk
            · refine gX_aloadn dX12_putBook_90 rfl ?_
              refine gX_bipush dX12_putBook_91 (by decide) ⟨by decide, by decide⟩ ?_
              refine gX_iloadn dX12_putBook_93 rfl ?_
              refine gX_imul dX12_putBook_94 ⟨by omega, by omega⟩ ?_
              refine gX_iloadn dX12_putBook_95 rfl ?_
              refine gX_iadd dX12_putBook_96 ⟨by omega, by omega⟩ ?_
              refine gX_bipush dX12_putBook_97 (by decide) ⟨by decide, by decide⟩ ?_
              refine gX_iloadn dX12_putBook_99 rfl ?_
              refine gX_imul dX12_putBook_100 ⟨by omega, by omega⟩ ?_
              refine gX_iloadn dX12_putBook_101 rfl ?_
              refine gX_iadd dX12_putBook_102 ⟨by omega, by omega⟩ ?_
              refine gX_virt (J := iX12_putGloss) (av := [gi ((20 * f) + i), gi ((20 * t) + i)]) (a := 775) (st := []) dX12_putBook_103 lkX12_239 kX12_putGloss vX12_putGloss (gFit_m (by decide)) hM.1 rfl rfl (Nat.le_of_ble_eq_true rfl) (Nat.zero_le _) (Nat.zero_le _) rfl ?_
              refine m_putGloss hM ⟨by omega, by omega⟩ ⟨by omega, by omega⟩ (by omega) (fun V4 he4 hf4 => ?_)
              show gX l E _ 106 [some (ga 775), some (gi f), some (gi t), some (gi i)] [] (K, R, V4) _ _
              refine gX_iinc dX12_putBook_106 rfl (show (3 : Nat) < 4 from by decide) ⟨by omega, by omega⟩ (ls2 := [some (ga 775), some (gi f), some (gi t), some (gi (i + 1))]) rfl ?_
              refine gX_goto (tgt := 84) dX12_putBook_109 (by decide) ?_
              refine ih (i + 1) V4 _ _ (by omega) (by omega) (by omega) ?_ (fun j j0 j1 => ?_) ?_ (fun g g0 g1 => ?_) (a5.trans (hf4.sl (by omega) (by omega)))
              · rw [hf4 776 t (by unfold inGl; omega)]; exact a1
              · rw [hf4 777 _ (by unfold inGl; omega), hf4 778 _ (by unfold inGl; omega)]; exact a2 j j0 j1
              · rw [hf4 779 t (by unfold inGl; omega)]; exact a3
              · by_cases eg : g = i
                · subst eg
                  refine he4.trans ?_
                  exact ⟨a5 _ _ (by unfold inSl; omega), a5 _ _ (by unfold inSl; omega), a5 _ _ (by unfold inSl; omega), a5 _ _ (by unfold inSl; omega), fun j j0 j1 => ⟨a5 _ _ (by unfold inSl; omega), a5 _ _ (by unfold inSl; omega)⟩⟩
                · refine glE.trans ?_ (a4 g g0 (by omega))
                  exact ⟨hf4 _ _ (by unfold inGl; omega), hf4 _ _ (by unfold inGl; omega), hf4 _ _ (by unfold inGl; omega), hf4 _ _ (by unfold inGl; omega), fun j j0 j1 => ⟨hf4 _ _ (by unfold inGl; omega), hf4 _ _ (by unfold inGl; omega)⟩⟩
        refine l2 21 0 _ _ _ (by omega) (by omega) (by omega) ?_ (fun j j0 j1 => ?_) gup_s (fun g g0 g1 => by omega) (fun a k hk => ?_)
        · rw [gup_ne (by omega)]; exact a1
        · rw [gup_ne (by omega), gup_ne (by omega)]; exact a2 j j0 (by omega)
        · rw [gup_c (by unfold inSl at hk; omega)]; exact a3 a k hk
      · refine gX_aloadn dX12_putBook_20 rfl ?_
        refine gX_gR 2 dX12_putBook_21 fdX12_13 rfl rfl hM.1 (mR2 hM) ?_
        refine gX_bipush dX12_putBook_24 (by decide) ⟨by decide, by decide⟩ ?_
        refine gX_iloadn dX12_putBook_26 rfl ?_
        refine gX_imul dX12_putBook_27 ⟨by omega, by omega⟩ ?_
        refine gX_iloadn dX12_putBook_28 rfl ?_
        refine gX_iadd dX12_putBook_29 ⟨by omega, by omega⟩ ?_
        refine gX_aloadn dX12_putBook_30 rfl ?_
        refine gX_gR 2 dX12_putBook_31 fdX12_13 rfl rfl hM.1 (mR2 hM) ?_
        refine gX_bipush dX12_putBook_34 (by decide) ⟨by decide, by decide⟩ ?_
        refine gX_iloadn dX12_putBook_36 rfl ?_
        refine gX_imul dX12_putBook_37 ⟨by omega, by omega⟩ ?_
        refine gX_iloadn dX12_putBook_38 rfl ?_
        refine gX_iadd dX12_putBook_39 ⟨by omega, by omega⟩ ?_
        refine gX_iald dX12_putBook_40 (mA2 hM) (by omega) (by omega) ?_
        rw [show V1 777 (40 * f + i) = V 777 (40 * f + i) from a3 _ _ (by unfold inSl; omega)]
        refine gX_iast dX12_putBook_41 (mA2 hM) (by omega) (by omega) ?_
        refine gX_aloadn dX12_putBook_42 rfl ?_
        refine gX_gR 3 dX12_putBook_43 fdX12_16 rfl rfl hM.1 (mR3 hM) ?_
        refine gX_bipush dX12_putBook_46 (by decide) ⟨by decide, by decide⟩ ?_
        refine gX_iloadn dX12_putBook_48 rfl ?_
        refine gX_imul dX12_putBook_49 ⟨by omega, by omega⟩ ?_
        refine gX_iloadn dX12_putBook_50 rfl ?_
        refine gX_iadd dX12_putBook_51 ⟨by omega, by omega⟩ ?_
        refine gX_aloadn dX12_putBook_52 rfl ?_
        refine gX_gR 3 dX12_putBook_53 fdX12_16 rfl rfl hM.1 (mR3 hM) ?_
        refine gX_bipush dX12_putBook_56 (by decide) ⟨by decide, by decide⟩ ?_
        refine gX_iloadn dX12_putBook_58 rfl ?_
        refine gX_imul dX12_putBook_59 ⟨by omega, by omega⟩ ?_
        refine gX_iloadn dX12_putBook_60 rfl ?_
        refine gX_iadd dX12_putBook_61 ⟨by omega, by omega⟩ ?_
        refine gX_iald dX12_putBook_62 (mA3 hM) (by omega) (by omega) ?_
        rw [show gup V1 777 (40 * t + i) (V 777 (40 * f + i)) 778 (40 * f + i) = V 778 (40 * f + i) by rw [gup_ne (by omega)]; exact a3 _ _ (by unfold inSl; omega)]
        refine gX_iast dX12_putBook_63 (mA3 hM) (by omega) (by omega) ?_
        refine gX_iinc dX12_putBook_64 rfl (show (3 : Nat) < 4 from by decide) ⟨by omega, by omega⟩ (ls2 := [some (ga 775), some (gi f), some (gi t), some (gi (i + 1))]) rfl ?_
        refine gX_goto (tgt := 14) dX12_putBook_67 (by decide) ?_
        refine ih (i + 1) _ _ _ (by omega) (by omega) (by omega) ?_ (fun j j0 j1 => ?_) (fun a k hk => ?_)
        · rw [gup_ne (by omega), gup_ne (by omega)]; exact a1
        · by_cases ej : j = i
          · subst ej
            exact ⟨by rw [gup_ne (by omega)]; exact gup_s, gup_s⟩
          · exact ⟨by rw [gup_ne (by omega), gup_k (by omega)]; exact (a2 j j0 (by omega)).1, by rw [gup_k (by omega), gup_ne (by omega)]; exact (a2 j j0 (by omega)).2⟩
        · rw [gup_c (by unfold inSl at hk; omega), gup_c (by unfold inSl at hk; omega)]; exact a3 a k hk
  refine gX_aloadn dX12_putBook_0 rfl ?_
  refine gX_gR 1 dX12_putBook_1 fdX12_7 rfl rfl hM.1 (mR1 hM) ?_
  refine gX_iloadn dX12_putBook_4 rfl ?_
  refine gX_aloadn dX12_putBook_5 rfl ?_
  refine gX_gR 1 dX12_putBook_6 fdX12_7 rfl rfl hM.1 (mR1 hM) ?_
  refine gX_iloadn dX12_putBook_9 rfl ?_
  refine gX_iald dX12_putBook_10 (mA1 hM) (by omega) (by omega) ?_
  refine gX_iast dX12_putBook_11 (mA1 hM) (by omega) (by omega) ?_
  refine gX_iconst dX12_putBook_12 ⟨by decide, by decide⟩ ?_
  refine gX_istoren dX12_putBook_13 (show (3 : Nat) < 4 from by decide) (ls2 := [some (ga 775), some (gi f), some (gi t), some (gi 0)]) rfl ?_
  refine l1 41 0 _ _ _ (by omega) (by omega) (by omega) gup_s (fun j j0 j1 => by omega) (fun a k hk => ?_)
  rw [gup_c (by unfold inSl at hk; omega)]
set_option maxRecDepth 4000 in
theorem m_noneGone (hM : mdK K R) (hQ : ∀ V', (∀ j : Int, 0 ≤ j → j < 20 → V' 804 j = 0) → (∀ a, a ≠ 804 → V' a = V a) → Q none (K, R, V')) : gC l E (d + 1) iX12_noneGone [ga 775] (K, R, V) Q := by
  refine gC_of kX12_noneGone (ls := [some (ga 775), none]) rfl (Nat.le_of_ble_eq_true rfl) ?_
  have lp : ∀ (jj : Nat) (i : Int) (V1 : Int → Int → Int) (bc bs : Nat), (20 : Int) - i < (jj : Int) → 0 ≤ i → i ≤ 20 → (∀ j : Int, 0 ≤ j → j < i → V1 804 j = 0) → (∀ a, a ≠ 804 → V1 a = V a) → gX l E (gFm E (d + 1) iX12_noneGone Q) 2 [some (ga 775), some (gi i)] [] (K, R, V1) bc bs := by
    intro jj
    induction jj with
    | zero =>
      intro i V1 bc bs hj q0 q1 hz1 hf1
      exfalso; omega
    | succ jj ih =>
      intro i V1 bc bs hj q0 q1 hz1 hf1
      refine gX_iloadn dX12_noneGone_2 rfl ?_
      refine gX_bipush dX12_noneGone_3 (by decide) ⟨by decide, by decide⟩ ?_
      refine gX_icmpge (tgt := 21) dX12_noneGone_5 (by decide) (fun w1 => ?_) (fun w1 => ?_)
      · refine gX_vret dX12_noneGone_21 rfl ?_
        exact hQ V1 (fun j j0 j1 => hz1 j j0 (by omega)) hf1
      · refine gX_aloadn dX12_noneGone_8 rfl ?_
        refine gX_gR 45 dX12_noneGone_9 fdX12_98 rfl rfl hM.1 (mR45 hM) ?_
        refine gX_iloadn dX12_noneGone_12 rfl ?_
        refine gX_iconst dX12_noneGone_13 ⟨by decide, by decide⟩ ?_
        refine gX_zast dX12_noneGone_14 (Or.inl rfl) (mA45 hM) (by omega) (by omega) ?_
        refine gX_iinc dX12_noneGone_15 rfl (show (1 : Nat) < 2 from by decide) ⟨by omega, by omega⟩ (ls2 := [some (ga 775), some (gi (i + 1))]) rfl ?_
        refine gX_goto (tgt := 2) dX12_noneGone_18 (by decide) ?_
        refine ih (i + 1) _ _ _ (by omega) (by omega) (by omega) (fun j j0 j1 => ?_) (fun a ha => by rw [gup_ne ha]; exact hf1 a ha)
        by_cases ej : j = i
        · subst ej; exact gup_s
        · rw [gup_k ej]; exact hz1 j j0 (by omega)
  refine gX_iconst dX12_noneGone_0 ⟨by decide, by decide⟩ ?_
  refine gX_istoren dX12_noneGone_1 (show (1 : Nat) < 2 from by decide) (ls2 := [some (ga 775), some (gi 0)]) rfl ?_
  exact lp 21 0 V _ _ (by omega) (by omega) (by omega) (fun j j0 j1 => by omega) (fun _ _ => rfl)
set_option maxRecDepth 4000 in
theorem m_beginWork (hM : mdK K R) (hQ : ∀ V', (V' 776 10 = 0 ∧ V' 779 10 = 0 ∧ V' 786 10 = -1 ∧ V' 787 10 = -1) → (∀ j : Int, 0 ≤ j → j < 6 → V' 788 (60 + j) = 0 ∧ V' 789 (60 + j) = 0) → sloF V V' 10 → Q none (K, R, V')) : gC l E (d + 1) iX12_beginWork [ga 775] (K, R, V) Q := by
  refine gC_of kX12_beginWork (ls := [some (ga 775), none]) rfl (Nat.le_of_ble_eq_true rfl) ?_
  have lp : ∀ (jj : Nat) (i : Int) (V1 : Int → Int → Int) (bc bs : Nat), (6 : Int) - i < (jj : Int) → 0 ≤ i → i ≤ 6 → (V1 776 10 = 0 ∧ V1 779 10 = 0 ∧ V1 786 10 = -1 ∧ V1 787 10 = -1) → (∀ j : Int, 0 ≤ j → j < i → V1 788 (60 + j) = 0 ∧ V1 789 (60 + j) = 0) → sloF V V1 10 → gX l E (gFm E (d + 1) iX12_beginWork Q) 34 [some (ga 775), some (gi i)] [] (K, R, V1) bc bs := by
    intro jj
    induction jj with
    | zero =>
      intro i V1 bc bs hj q0 q1 hs1 hz1 hf1
      exfalso; omega
    | succ jj ih =>
      intro i V1 bc bs hj q0 q1 hs1 hz1 hf1
      refine gX_iloadn dX12_beginWork_34 rfl ?_
      refine gX_bipush dX12_beginWork_35 (by decide) ⟨by decide, by decide⟩ ?_
      refine gX_icmpge (tgt := 66) dX12_beginWork_37 (by decide) (fun w1 => ?_) (fun w1 => ?_)
      · refine gX_vret dX12_beginWork_66 rfl ?_
        exact hQ V1 hs1 (fun j j0 j1 => hz1 j j0 (by omega)) hf1
      · refine gX_aloadn dX12_beginWork_40 rfl ?_
        refine gX_gR 13 dX12_beginWork_41 fdX12_46 rfl rfl hM.1 (mR13 hM) ?_
        refine gX_bipush dX12_beginWork_44 (by decide) ⟨by decide, by decide⟩ ?_
        refine gX_iloadn dX12_beginWork_46 rfl ?_
        refine gX_iadd dX12_beginWork_47 ⟨by omega, by omega⟩ ?_
        refine gX_iconst dX12_beginWork_48 ⟨by decide, by decide⟩ ?_
        refine gX_iast dX12_beginWork_49 (mA13 hM) (by omega) (by omega) ?_
        refine gX_aloadn dX12_beginWork_50 rfl ?_
        refine gX_gR 14 dX12_beginWork_51 fdX12_49 rfl rfl hM.1 (mR14 hM) ?_
        refine gX_bipush dX12_beginWork_54 (by decide) ⟨by decide, by decide⟩ ?_
        refine gX_iloadn dX12_beginWork_56 rfl ?_
        refine gX_iadd dX12_beginWork_57 ⟨by omega, by omega⟩ ?_
        refine gX_iconst dX12_beginWork_58 ⟨by decide, by decide⟩ ?_
        refine gX_iast dX12_beginWork_59 (mA14 hM) (by omega) (by omega) ?_
        refine gX_iinc dX12_beginWork_60 rfl (show (1 : Nat) < 2 from by decide) ⟨by omega, by omega⟩ (ls2 := [some (ga 775), some (gi (i + 1))]) rfl ?_
        refine gX_goto (tgt := 34) dX12_beginWork_63 (by decide) ?_
        refine ih (i + 1) _ _ _ (by omega) (by omega) (by omega) ⟨?_, ?_, ?_, ?_⟩ (fun j j0 j1 => ?_) (fun a k hk => ?_)
        · rw [gup_ne (by omega), gup_ne (by omega)]; exact hs1.1
        · rw [gup_ne (by omega), gup_ne (by omega)]; exact hs1.2.1
        · rw [gup_ne (by omega), gup_ne (by omega)]; exact hs1.2.2.1
        · rw [gup_ne (by omega), gup_ne (by omega)]; exact hs1.2.2.2
        · by_cases ej : j = i
          · subst ej; exact ⟨by rw [gup_ne (by omega)]; exact gup_s, gup_s⟩
          · exact ⟨by rw [gup_ne (by omega), gup_k (by omega)]; exact (hz1 j j0 (by omega)).1, by rw [gup_k (by omega), gup_ne (by omega)]; exact (hz1 j j0 (by omega)).2⟩
        · rw [gup_c (by unfold inSl at hk; omega), gup_c (by unfold inSl at hk; omega)]; exact hf1 a k hk
  refine gX_aloadn dX12_beginWork_0 rfl ?_
  refine gX_gR 1 dX12_beginWork_1 fdX12_7 rfl rfl hM.1 (mR1 hM) ?_
  refine gX_bipush dX12_beginWork_4 (by decide) ⟨by decide, by decide⟩ ?_
  refine gX_iconst dX12_beginWork_6 ⟨by decide, by decide⟩ ?_
  refine gX_iast dX12_beginWork_7 (mA1 hM) (by omega) (by omega) ?_
  refine gX_aloadn dX12_beginWork_8 rfl ?_
  refine gX_gR 4 dX12_beginWork_9 fdX12_19 rfl rfl hM.1 (mR4 hM) ?_
  refine gX_bipush dX12_beginWork_12 (by decide) ⟨by decide, by decide⟩ ?_
  refine gX_iconst dX12_beginWork_14 ⟨by decide, by decide⟩ ?_
  refine gX_iast dX12_beginWork_15 (mA4 hM) (by omega) (by omega) ?_
  refine gX_aloadn dX12_beginWork_16 rfl ?_
  refine gX_gR 11 dX12_beginWork_17 fdX12_40 rfl rfl hM.1 (mR11 hM) ?_
  refine gX_bipush dX12_beginWork_20 (by decide) ⟨by decide, by decide⟩ ?_
  refine gX_iconst dX12_beginWork_22 ⟨by decide, by decide⟩ ?_
  refine gX_iast dX12_beginWork_23 (mA11 hM) (by omega) (by omega) ?_
  refine gX_aloadn dX12_beginWork_24 rfl ?_
  refine gX_gR 12 dX12_beginWork_25 fdX12_43 rfl rfl hM.1 (mR12 hM) ?_
  refine gX_bipush dX12_beginWork_28 (by decide) ⟨by decide, by decide⟩ ?_
  refine gX_iconst dX12_beginWork_30 ⟨by decide, by decide⟩ ?_
  refine gX_iast dX12_beginWork_31 (mA12 hM) (by omega) (by omega) ?_
  refine gX_iconst dX12_beginWork_32 ⟨by decide, by decide⟩ ?_
  refine gX_istoren dX12_beginWork_33 (show (1 : Nat) < 2 from by decide) (ls2 := [some (ga 775), some (gi 0)]) rfl ?_
  refine lp 7 0 _ _ _ (by omega) (by omega) (by omega) ⟨?_, ?_, ?_, gup_s⟩ (fun j j0 j1 => by omega) (fun a k hk => ?_)
  · rw [gup_ne (by omega), gup_ne (by omega), gup_ne (by omega)]; exact gup_s
  · rw [gup_ne (by omega), gup_ne (by omega)]; exact gup_s
  · rw [gup_ne (by omega)]; exact gup_s
  · rw [gup_c (by unfold inSl at hk; omega), gup_c (by unfold inSl at hk; omega), gup_c (by unfold inSl at hk; omega), gup_c (by unfold inSl at hk; omega)]
end MD13
