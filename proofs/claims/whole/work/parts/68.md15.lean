/-! The reference: a hand as it is read, and kept. Written by wip/whole/tools/mk_md15.py. -/
def rrH (V : Int → Int → Int) (q : gbH) : Prop := V 775 36 = q.1.length ∧ q.1.length ≤ 4 ∧ (∀ j : Int, 0 ≤ j → j < q.1.length → V 800 j = lat q.1 j ∧ V 801 j = lat q.2.1 j ∧ V 802 j = lat q.2.2.1 j) ∧ (∀ j : Int, 1 ≤ j → j < 6 → V 803 j = lat q.2.2.2.1 j) ∧ V 775 41 = q.2.2.2.2.1 ∧ V 775 42 = q.2.2.2.2.2
def bhF (V V' : Int → Int → Int) : Prop := (∀ a, a ≠ 775 → a ≠ 803 → V' a = V a) ∧ ∀ k, k ≠ 36 → k ≠ 41 → k ≠ 42 → V' 775 k = V 775 k
/-- a cell of the hand at h -/
def inHd (h a k : Int) : Prop := ((a = 793 ∨ a = 798 ∨ a = 799) ∧ k = h) ∨ ((a = 794 ∨ a = 795 ∨ a = 796) ∧ 4 * h ≤ k ∧ k < 4 * h + 4) ∨ (a = 797 ∧ 6 * h ≤ k ∧ k < 6 * h + 6)
def hdF (V V' : Int → Int → Int) (h : Int) : Prop := ∀ a k, ¬ inHd h a k → V' a k = V a k
theorem rhA.of {V V' : Int → Int → Int} {h c : Int} {q : gbH} (hr : rhA V c q) (hf : hdF V V' h) (hne : c ≠ h) : rhA V' c q := by
  have h4 := hr.2.1
  refine ⟨by rw [hf _ _ (by unfold inHd; omega)]; exact hr.1, h4, fun j j0 j1 => ?_, fun j j0 j1 => by rw [hf _ _ (by unfold inHd; omega)]; exact hr.2.2.2.1 j j0 j1, by rw [hf _ _ (by unfold inHd; omega)]; exact hr.2.2.2.2.1, by rw [hf _ _ (by unfold inHd; omega)]; exact hr.2.2.2.2.2⟩
  rw [hf 794 _ (by unfold inHd; omega), hf 795 _ (by unfold inHd; omega), hf 796 _ (by unfold inHd; omega)]
  exact hr.2.2.1 j j0 j1
theorem lat_rep6 {j : Int} : lat (List.replicate 6 (-1)) j = -1 := by
  rcases lat_cs (List.replicate 6 (-1)) j with z | z
  · exact z
  · exact List.eq_of_mem_replicate z
section MD15
variable {l : Launch} {E : gE} {d : Nat} {K : List gK} {R V : Int → Int → Int} {h i : Int} {Q : gQ} {q : gbH}
set_option maxRecDepth 4000 in
theorem m_bareHand (hM : mdK K R) (hQ : ∀ V', rrH V' ghE → bhF V V' → Q none (K, R, V')) : gC l E (d + 1) iX12_bareHand [ga 775] (K, R, V) Q := by
  refine gC_of kX12_bareHand (ls := [some (ga 775), none]) rfl (Nat.le_of_ble_eq_true rfl) ?_
  have lp : ∀ (jj : Nat) (i : Int) (V1 : Int → Int → Int) (bc bs : Nat), (6 : Int) - i < (jj : Int) → 0 ≤ i → i ≤ 6 → (V1 775 36 = 0 ∧ V1 775 41 = -1 ∧ V1 775 42 = -1) → (∀ j : Int, 0 ≤ j → j < i → V1 803 j = -1) → bhF V V1 → gX l E (gFm E (d + 1) iX12_bareHand Q) 17 [some (ga 775), some (gi i)] [] (K, R, V1) bc bs := by
    intro jj
    induction jj with
    | zero =>
      intro i V1 bc bs hj q0 q1 hs1 hz1 hf1
      exfalso; omega
    | succ jj ih =>
      intro i V1 bc bs hj q0 q1 hs1 hz1 hf1
      refine gX_iloadn dX12_bareHand_17 rfl ?_
      refine gX_bipush dX12_bareHand_18 (by decide) ⟨by decide, by decide⟩ ?_
      refine gX_icmpge (tgt := 36) dX12_bareHand_20 (by decide) (fun w1 => ?_) (fun w1 => ?_)
      · refine gX_vret dX12_bareHand_36 rfl ?_
        exact hQ V1 ⟨hs1.1, by decide, fun j j0 j1 => absurd j1 (by show ¬ j < ((0 : Nat) : Int); omega), fun j j0 j1 => by rw [hz1 j (by omega) (by omega)]; exact lat_rep6.symm, hs1.2.1, hs1.2.2⟩ hf1
      · refine gX_aloadn dX12_bareHand_23 rfl ?_
        refine gX_gR 40 dX12_bareHand_24 fdX12_95 rfl rfl hM.1 (mR40 hM) ?_
        refine gX_iloadn dX12_bareHand_27 rfl ?_
        refine gX_iconst dX12_bareHand_28 ⟨by decide, by decide⟩ ?_
        refine gX_iast dX12_bareHand_29 (mA40 hM) (by omega) (by omega) ?_
        refine gX_iinc dX12_bareHand_30 rfl (show (1 : Nat) < 2 from by decide) ⟨by omega, by omega⟩ (ls2 := [some (ga 775), some (gi (i + 1))]) rfl ?_
        refine gX_goto (tgt := 17) dX12_bareHand_33 (by decide) ?_
        refine ih (i + 1) _ _ _ (by omega) (by omega) (by omega) ⟨?_, ?_, ?_⟩ (fun j j0 j1 => ?_) ⟨fun a h1 h2 => by rw [gup_ne h2]; exact hf1.1 a h1 h2, fun k h1 h2 h3 => by rw [gup_ne (by omega)]; exact hf1.2 k h1 h2 h3⟩
        · rw [gup_ne (by omega)]; exact hs1.1
        · rw [gup_ne (by omega)]; exact hs1.2.1
        · rw [gup_ne (by omega)]; exact hs1.2.2
        · by_cases ej : j = i
          · subst ej; exact gup_s
          · rw [gup_k ej]; exact hz1 j j0 (by omega)
  refine gX_aloadn dX12_bareHand_0 rfl ?_
  refine gX_iconst dX12_bareHand_1 ⟨by decide, by decide⟩ ?_
  refine gX_pI 36 dX12_bareHand_2 fdX12_242 fpX12_242 rfl (Or.inl rfl) hM.1 ?_
  refine gX_aloadn dX12_bareHand_5 rfl ?_
  refine gX_iconst dX12_bareHand_6 ⟨by decide, by decide⟩ ?_
  refine gX_pI 41 dX12_bareHand_7 fdX12_245 fpX12_245 rfl (Or.inl rfl) hM.1 ?_
  refine gX_aloadn dX12_bareHand_10 rfl ?_
  refine gX_iconst dX12_bareHand_11 ⟨by decide, by decide⟩ ?_
  refine gX_pI 42 dX12_bareHand_12 fdX12_248 fpX12_248 rfl (Or.inl rfl) hM.1 ?_
  refine gX_iconst dX12_bareHand_15 ⟨by decide, by decide⟩ ?_
  refine gX_istoren dX12_bareHand_16 (show (1 : Nat) < 2 from by decide) (ls2 := [some (ga 775), some (gi 0)]) rfl ?_
  refine lp 7 0 _ _ _ (by omega) (by omega) (by omega) ⟨?_, ?_, gup_s⟩ (fun j j0 j1 => by omega) ⟨fun a h1 h2 => by rw [gup_ne h1, gup_ne h1, gup_ne h1], fun k h1 h2 h3 => by rw [gup_k h3, gup_k h2, gup_k h1]⟩
  · rw [gup_k (by omega), gup_k (by omega)]; exact gup_s
  · rw [gup_k (by omega)]; exact gup_s
set_option maxRecDepth 4000 in
theorem m_keepHand (hM : mdK K R) (hh : 0 ≤ h ∧ h < 4) (hr : rrH V q) (hQ : ∀ V', rhA V' h q → hdF V V' h → Q none (K, R, V')) : gC l E (d + 1) iX12_keepHand [ga 775, gi h] (K, R, V) Q := by
  refine gC_of kX12_keepHand (ls := [some (ga 775), some (gi h), none]) rfl (Nat.le_of_ble_eq_true rfl) ?_
  have l1 : ∀ (jj : Nat) (i : Int) (V1 : Int → Int → Int) (bc bs : Nat), (4 : Int) - i < (jj : Int) → 0 ≤ i → i ≤ 4 → V1 793 h = V 775 36 → (∀ j : Int, 0 ≤ j → j < i → V1 794 (4 * h + j) = V 800 j ∧ V1 795 (4 * h + j) = V 801 j ∧ V1 796 (4 * h + j) = V 802 j) → hdF V V1 h → gX l E (gFm E (d + 1) iX12_keepHand Q) 12 [some (ga 775), some (gi h), some (gi i)] [] (K, R, V1) bc bs := by
    intro jj
    induction jj with
    | zero =>
      intro i V1 bc bs hj q0 q1 a1 a2 a3
      exfalso; omega
    | succ jj ih =>
      intro i V1 bc bs hj q0 q1 a1 a2 a3
      refine gX_iloadn dX12_keepHand_12 rfl ?_
      refine gX_iconst dX12_keepHand_13 ⟨by decide, by decide⟩ ?_
      refine gX_icmpge (tgt := 71) dX12_keepHand_14 (by decide) (fun z1 => ?_) (fun z1 => ?_)
      · refine gX_iconst dX12_keepHand_71 ⟨by decide, by decide⟩ ?_
        refine gX_istoren dX12_keepHand_72 (show (2 : Nat) < 3 from by decide) (ls2 := [some (ga 775), some (gi h), some (gi 0)]) rfl ?_
        have l2 : ∀ (jj : Nat) (i : Int) (V2 : Int → Int → Int) (bc bs : Nat), (6 : Int) - i < (jj : Int) → 0 ≤ i → i ≤ 6 → V2 793 h = V 775 36 → (∀ j : Int, 0 ≤ j → j < 4 → V2 794 (4 * h + j) = V 800 j ∧ V2 795 (4 * h + j) = V 801 j ∧ V2 796 (4 * h + j) = V 802 j) → (∀ j : Int, 0 ≤ j → j < i → V2 797 (6 * h + j) = V 803 j) → hdF V V2 h → gX l E (gFm E (d + 1) iX12_keepHand Q) 73 [some (ga 775), some (gi h), some (gi i)] [] (K, R, V2) bc bs := by
          intro jj
          induction jj with
          | zero =>
            intro i V2 bc bs hj q0 q1 a1 a2 a3 a4
            exfalso; omega
          | succ jj ih =>
            intro i V2 bc bs hj q0 q1 a1 a2 a3 a4
            refine gX_iloadn dX12_keepHand_73 rfl ?_
            refine gX_bipush dX12_keepHand_74 (by decide) ⟨by decide, by decide⟩ ?_
            refine gX_icmpge (tgt := 102) dX12_keepHand_76 (by decide) (fun y1 => ?_) (fun y1 => ?_)
            · refine gX_aloadn dX12_keepHand_102 rfl ?_
              refine gX_gR 34 dX12_keepHand_103 fdX12_80 rfl rfl hM.1 (mR34 hM) ?_
              refine gX_iloadn dX12_keepHand_106 rfl ?_
              refine gX_aloadn dX12_keepHand_107 rfl ?_
              refine gX_gI 41 dX12_keepHand_108 fdX12_245 rfl (Or.inl rfl) hM.1 ?_
              rw [show V2 775 41 = V 775 41 from a4 _ _ (by unfold inHd; omega)]
              refine gX_iast dX12_keepHand_111 (mA34 hM) (by omega) (by omega) ?_
              refine gX_aloadn dX12_keepHand_112 rfl ?_
              refine gX_gR 35 dX12_keepHand_113 fdX12_83 rfl rfl hM.1 (mR35 hM) ?_
              refine gX_iloadn dX12_keepHand_116 rfl ?_
              refine gX_aloadn dX12_keepHand_117 rfl ?_
              refine gX_gI 42 dX12_keepHand_118 fdX12_248 rfl (Or.inl rfl) hM.1 ?_
              rw [show gup V2 798 h (V 775 41) 775 42 = V 775 42 by rw [gup_ne (by omega)]; exact a4 _ _ (by unfold inHd; omega)]
              refine gX_iast dX12_keepHand_121 (mA35 hM) (by omega) (by omega) ?_
              refine gX_vret dX12_keepHand_122 rfl ?_
              refine hQ _ ⟨?_, hr.2.1, fun j j0 j1 => ?_, fun j j0 j1 => ?_, ?_, ?_⟩ (fun a k hk => ?_)
              · rw [gup_ne (by omega), gup_ne (by omega), a1]; exact hr.1
              · rw [gup_ne (by omega), gup_ne (by omega), gup_ne (by omega), gup_ne (by omega), gup_ne (by omega), gup_ne (by omega)]
                have z := a2 j j0 (by have := hr.2.1; omega)
                rw [z.1, z.2.1, z.2.2]; exact hr.2.2.1 j j0 j1
              · rw [gup_ne (by omega), gup_ne (by omega), a3 j (by omega) (by omega)]; exact hr.2.2.2.1 j j0 j1
              · rw [gup_ne (by omega)]; rw [show gup V2 798 h (V 775 41) 798 h = V 775 41 from gup_s]; exact hr.2.2.2.2.1
              · rw [show gup (gup V2 798 h (V 775 41)) 799 h (V 775 42) 799 h = V 775 42 from gup_s]; exact hr.2.2.2.2.2
              · rw [gup_c (by unfold inHd at hk; omega), gup_c (by unfold inHd at hk; omega)]; exact a4 a k hk
            · refine gX_aloadn dX12_keepHand_79 rfl ?_
              refine gX_gR 33 dX12_keepHand_80 fdX12_77 rfl rfl hM.1 (mR33 hM) ?_
              refine gX_bipush dX12_keepHand_83 (by decide) ⟨by decide, by decide⟩ ?_
              refine gX_iloadn dX12_keepHand_85 rfl ?_
              refine gX_imul dX12_keepHand_86 ⟨by omega, by omega⟩ ?_
              refine gX_iloadn dX12_keepHand_87 rfl ?_
              refine gX_iadd dX12_keepHand_88 ⟨by omega, by omega⟩ ?_
              refine gX_aloadn dX12_keepHand_89 rfl ?_
              refine gX_gR 40 dX12_keepHand_90 fdX12_95 rfl rfl hM.1 (mR40 hM) ?_
              refine gX_iloadn dX12_keepHand_93 rfl ?_
              refine gX_iald dX12_keepHand_94 (mA40 hM) (by omega) (by omega) ?_
              rw [show V2 803 i = V 803 i from a4 _ _ (by unfold inHd; omega)]
              refine gX_iast dX12_keepHand_95 (mA33 hM) (by omega) (by omega) ?_
              refine gX_iinc dX12_keepHand_96 rfl (show (2 : Nat) < 3 from by decide) ⟨by omega, by omega⟩ (ls2 := [some (ga 775), some (gi h), some (gi (i + 1))]) rfl ?_
              refine gX_goto (tgt := 73) dX12_keepHand_99 (by decide) ?_
              refine ih (i + 1) _ _ _ (by omega) (by omega) (by omega) ?_ (fun j j0 j1 => ?_) (fun j j0 j1 => ?_) (fun a k hk => ?_)
              · rw [gup_ne (by omega)]; exact a1
              · rw [gup_ne (by omega), gup_ne (by omega), gup_ne (by omega)]; exact a2 j j0 j1
              · by_cases ej : j = i
                · subst ej; exact gup_s
                · rw [gup_k (by omega)]; exact a3 j j0 (by omega)
              · rw [gup_c (by unfold inHd at hk; omega)]; exact a4 a k hk
        exact l2 7 0 V1 _ _ (by omega) (by omega) (by omega) a1 (fun j j0 j1 => a2 j j0 (by omega)) (fun j j0 j1 => by omega) a3
      · refine gX_aloadn dX12_keepHand_17 rfl ?_
        refine gX_gR 30 dX12_keepHand_18 fdX12_68 rfl rfl hM.1 (mR30 hM) ?_
        refine gX_iconst dX12_keepHand_21 ⟨by decide, by decide⟩ ?_
        refine gX_iloadn dX12_keepHand_22 rfl ?_
        refine gX_imul dX12_keepHand_23 ⟨by omega, by omega⟩ ?_
        refine gX_iloadn dX12_keepHand_24 rfl ?_
        refine gX_iadd dX12_keepHand_25 ⟨by omega, by omega⟩ ?_
        refine gX_aloadn dX12_keepHand_26 rfl ?_
        refine gX_gR 37 dX12_keepHand_27 fdX12_86 rfl rfl hM.1 (mR37 hM) ?_
        refine gX_iloadn dX12_keepHand_30 rfl ?_
        refine gX_iald dX12_keepHand_31 (mA37 hM) (by omega) (by omega) ?_
        rw [show V1 800 i = V 800 i from a3 _ _ (by unfold inHd; omega)]
        refine gX_iast dX12_keepHand_32 (mA30 hM) (by omega) (by omega) ?_
        refine gX_aloadn dX12_keepHand_33 rfl ?_
        refine gX_gR 31 dX12_keepHand_34 fdX12_71 rfl rfl hM.1 (mR31 hM) ?_
        refine gX_iconst dX12_keepHand_37 ⟨by decide, by decide⟩ ?_
        refine gX_iloadn dX12_keepHand_38 rfl ?_
        refine gX_imul dX12_keepHand_39 ⟨by omega, by omega⟩ ?_
        refine gX_iloadn dX12_keepHand_40 rfl ?_
        refine gX_iadd dX12_keepHand_41 ⟨by omega, by omega⟩ ?_
        refine gX_aloadn dX12_keepHand_42 rfl ?_
        refine gX_gR 38 dX12_keepHand_43 fdX12_89 rfl rfl hM.1 (mR38 hM) ?_
        refine gX_iloadn dX12_keepHand_46 rfl ?_
        refine gX_iald dX12_keepHand_47 (mA38 hM) (by omega) (by omega) ?_
        rw [show (gup V1 794 (4 * h + i) (V 800 i)) 801 i = V 801 i by rw [gup_ne (by omega)]; exact a3 _ _ (by unfold inHd; omega)]
        refine gX_iast dX12_keepHand_48 (mA31 hM) (by omega) (by omega) ?_
        refine gX_aloadn dX12_keepHand_49 rfl ?_
        refine gX_gR 32 dX12_keepHand_50 fdX12_74 rfl rfl hM.1 (mR32 hM) ?_
        refine gX_iconst dX12_keepHand_53 ⟨by decide, by decide⟩ ?_
        refine gX_iloadn dX12_keepHand_54 rfl ?_
        refine gX_imul dX12_keepHand_55 ⟨by omega, by omega⟩ ?_
        refine gX_iloadn dX12_keepHand_56 rfl ?_
        refine gX_iadd dX12_keepHand_57 ⟨by omega, by omega⟩ ?_
        refine gX_aloadn dX12_keepHand_58 rfl ?_
        refine gX_gR 39 dX12_keepHand_59 fdX12_92 rfl rfl hM.1 (mR39 hM) ?_
        refine gX_iloadn dX12_keepHand_62 rfl ?_
        refine gX_iald dX12_keepHand_63 (mA39 hM) (by omega) (by omega) ?_
        rw [show (gup (gup V1 794 (4 * h + i) (V 800 i)) 795 (4 * h + i) (V 801 i)) 802 i = V 802 i by rw [gup_ne (by omega), gup_ne (by omega)]; exact a3 _ _ (by unfold inHd; omega)]
        refine gX_iast dX12_keepHand_64 (mA32 hM) (by omega) (by omega) ?_
        refine gX_iinc dX12_keepHand_65 rfl (show (2 : Nat) < 3 from by decide) ⟨by omega, by omega⟩ (ls2 := [some (ga 775), some (gi h), some (gi (i + 1))]) rfl ?_
        refine gX_goto (tgt := 12) dX12_keepHand_68 (by decide) ?_
        refine ih (i + 1) _ _ _ (by omega) (by omega) (by omega) ?_ (fun j j0 j1 => ?_) (fun a k hk => ?_)
        · rw [gup_ne (by omega), gup_ne (by omega), gup_ne (by omega)]; exact a1
        · by_cases ej : j = i
          · subst ej; exact ⟨by rw [gup_ne (by omega), gup_ne (by omega)]; exact gup_s, by rw [gup_ne (by omega)]; exact gup_s, gup_s⟩
          · have z := a2 j j0 (by omega)
            exact ⟨by rw [gup_ne (by omega), gup_ne (by omega), gup_k (by omega)]; exact z.1, by rw [gup_ne (by omega), gup_k (by omega), gup_ne (by omega)]; exact z.2.1, by rw [gup_k (by omega), gup_ne (by omega), gup_ne (by omega)]; exact z.2.2⟩
        · rw [gup_c (by unfold inHd at hk; omega), gup_c (by unfold inHd at hk; omega), gup_c (by unfold inHd at hk; omega)]; exact a3 a k hk
  refine gX_aloadn dX12_keepHand_0 rfl ?_
  refine gX_gR 29 dX12_keepHand_1 fdX12_65 rfl rfl hM.1 (mR29 hM) ?_
  refine gX_iloadn dX12_keepHand_4 rfl ?_
  refine gX_aloadn dX12_keepHand_5 rfl ?_
  refine gX_gI 36 dX12_keepHand_6 fdX12_242 rfl (Or.inl rfl) hM.1 ?_
  refine gX_iast dX12_keepHand_9 (mA29 hM) (by omega) (by omega) ?_
  refine gX_iconst dX12_keepHand_10 ⟨by decide, by decide⟩ ?_
  refine gX_istoren dX12_keepHand_11 (show (2 : Nat) < 3 from by decide) (ls2 := [some (ga 775), some (gi h), some (gi 0)]) rfl ?_
  refine l1 5 0 _ _ _ (by omega) (by omega) (by omega) gup_s (fun j j0 j1 => by omega) (fun a k hk => ?_)
  rw [gup_c (by unfold inHd at hk; omega)]
end MD15
