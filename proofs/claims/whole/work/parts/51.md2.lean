/-! The reference: how its places hold the state; the calls that only look at numbers. Written by wip/whole/tools/mk_md2.py. -/
theorem inR_0 {v a b : Int} (h : b2i (inR v a b) = 0) : ¬ (a ≤ v ∧ v ≤ b) := by
  have := b2i_0 h
  unfold inR at this
  simpa using this
theorem inR_1 {v a b : Int} (h : ¬ b2i (inR v a b) = 0) : a ≤ v ∧ v ≤ b := by
  have := b2i_1 h
  unfold inR at this
  simpa using this
def rgIs (V : Int → Int → Int) (a : Int) (q : gG) : Prop := V 780 a = q.1 ∧ V 781 a = q.2.1 ∧ V 783 a = q.2.2.2.2.2.length ∧ q.2.2.2.2.2.length ≤ 8 ∧ ∀ (j : Nat) (x : Int), q.2.2.2.2.2[j]? = some x → V 784 (8 * a + j) = x
def rbIs (V : Int → Int → Int) (b : Int) (tx : List Int) (gs : List gG) : Prop := V 776 b = tx.length ∧ tx.length ≤ 40 ∧ (∀ (j : Nat) (x : Int), tx[j]? = some x → V 777 (40 * b + j) = x) ∧ V 779 b = gs.length ∧ gs.length ≤ 20 ∧ ∀ (k : Nat) (q : gG), gs[k]? = some q → rgIs V (20 * b + k) q
/-- not gone -/
def lvQ (q : gG) : Prop := q.2.2.2.2.1 = 0
def hoK (gs : List gG) (h : Int) : Prop := h = -1 ∨ (0 ≤ h ∧ h < gs.length ∧ lvQ (gq gs h))
def cvQ (q : gG) (h i : Int) : Prop := h = q.2.1 ∧ q.2.2.1 ≤ i ∧ i ≤ q.2.2.2.1
/-- the spans' numbers stand for first and last -/
def rsIs (V : Int → Int → Int) (b : Int) (tx : List Int) (gs : List gG) : Prop := (∀ g : Int, 0 ≤ g → g < gs.length → lvQ (gq gs g) → 0 ≤ V 782 (20 * b + g) ∧ ∀ h i : Int, hoK gs h → 0 ≤ i → i < (rwL tx gs h).length → (spA V b h i = V 782 (20 * b + g) ↔ cvQ (gq gs g) h i)) ∧ ∀ h i : Int, hoK gs h → 0 ≤ i → i < (rwL tx gs h).length → (∀ g : Int, 0 ≤ g → g < gs.length → lvQ (gq gs g) → ¬ cvQ (gq gs g) h i) → spA V b h i < 0
def rk1 (V : Int → Int → Int) (b : Int) (q : gbB) : Prop := rbIs V b q.1 q.2.1 ∧ rsIs V b q.1 q.2.1 ∧ V 786 b = q.2.2.1 ∧ V 787 b = q.2.2.2.1 ∧ ∀ j : Int, 0 ≤ j → j < 6 → V 788 (6 * b + j) = lat q.2.2.2.2.2 j ∧ V 789 (6 * b + j) = lat q.2.2.2.2.1 j
def rhA (V : Int → Int → Int) (h : Int) (q : gbH) : Prop := V 793 h = q.1.length ∧ q.1.length ≤ 4 ∧ (∀ j : Int, 0 ≤ j → j < q.1.length → V 794 (4 * h + j) = lat q.1 j ∧ V 795 (4 * h + j) = lat q.2.1 j ∧ V 796 (4 * h + j) = lat q.2.2.1 j) ∧ (∀ j : Int, 1 ≤ j → j < 6 → V 797 (6 * h + j) = lat q.2.2.2.1 j) ∧ V 798 h = q.2.2.2.2.1 ∧ V 799 h = q.2.2.2.2.2
def tdIs (V : Int → Int → Int) (ys : List Int) : Prop := V 775 16 = ys.length ∧ ys.length ≤ 320 ∧ ∀ (j : Nat) (x : Int), ys[j]? = some x → V 790 j = x
def mdIs (V : Int → Int → Int) (S : gbS) : Prop := V 775 0 = S.1.length ∧ S.1.length ≤ 10 ∧ V 775 17 = S.2.2.2 ∧ (∀ b : Int, 0 ≤ b → b < S.1.length → rk1 V b (gbq S b)) ∧ S.2.1.length = 4 ∧ (∀ h : Int, 0 ≤ h → h < 4 → rhA V h (ghq S h)) ∧ tdIs V S.2.2.1
/-- only places of work have changed -/
def qFr (V V' : Int → Int → Int) : Prop := (∀ a, a < 775 ∨ (776 ≤ a ∧ a ≤ 799) ∨ 819 ≤ a → V' a = V a) ∧ V' 775 0 = V 775 0 ∧ V' 775 16 = V 775 16 ∧ V' 775 17 = V 775 17
theorem qFr.rf {V : Int → Int → Int} : qFr V V := ⟨fun _ _ => rfl, rfl, rfl, rfl⟩
theorem qFr.trans {V V1 V2 : Int → Int → Int} (h : qFr V V1) (h2 : qFr V1 V2) : qFr V V2 := ⟨fun a ha => (h2.1 a ha).trans (h.1 a ha), h2.2.1.trans h.2.1, h2.2.2.1.trans h.2.2.1, h2.2.2.2.trans h.2.2.2⟩
theorem qFr.up {V V1 : Int → Int → Int} (h : qFr V V1) {a k x : Int} (ha : 800 ≤ a) (hb : a < 819) : qFr V (gup V1 a k x) := h.trans ⟨fun a' ha' => gup_ne (by omega), by rw [gup_ne (by omega)], by rw [gup_ne (by omega)], by rw [gup_ne (by omega)]⟩
theorem qFr.upf {V V1 : Int → Int → Int} (h : qFr V V1) {k x : Int} (h0 : k ≠ 0) (h1 : k ≠ 16) (h2 : k ≠ 17) : qFr V (gup V1 775 k x) := h.trans ⟨fun a' ha' => gup_ne (by omega), if_neg (fun z => h0 z.2.symm), if_neg (fun z => h1 z.2.symm), if_neg (fun z => h2 z.2.symm)⟩
theorem rgIs.kept {V V' : Int → Int → Int} {a : Int} {q : gG} (h : rgIs V a q) (hf : ∀ x, 776 ≤ x → x ≤ 799 → V' x = V x) : rgIs V' a q := by
  unfold rgIs
  rw [hf 780 (by omega) (by omega), hf 781 (by omega) (by omega), hf 783 (by omega) (by omega), hf 784 (by omega) (by omega)]
  exact h
theorem rbIs.kept {V V' : Int → Int → Int} {b : Int} {tx : List Int} {gs : List gG} (h : rbIs V b tx gs) (hf : ∀ x, 776 ≤ x → x ≤ 799 → V' x = V x) : rbIs V' b tx gs := by
  unfold rbIs
  rw [hf 776 (by omega) (by omega), hf 777 (by omega) (by omega), hf 779 (by omega) (by omega)]
  exact ⟨h.1, h.2.1, h.2.2.1, h.2.2.2.1, h.2.2.2.2.1, fun k q hk => (h.2.2.2.2.2 k q hk).kept hf⟩
theorem spA_kept {V V' : Int → Int → Int} {b h i : Int} (hf : ∀ x, 776 ≤ x → x ≤ 799 → V' x = V x) : spA V' b h i = spA V b h i := by
  unfold spA
  rw [hf 778 (by omega) (by omega), hf 785 (by omega) (by omega)]
theorem rsIs.kept {V V' : Int → Int → Int} {b : Int} {tx : List Int} {gs : List gG} (h : rsIs V b tx gs) (hf : ∀ x, 776 ≤ x → x ≤ 799 → V' x = V x) : rsIs V' b tx gs := by
  unfold rsIs
  simp only [spA_kept hf, hf 782 (by omega) (by omega)]
  exact h
theorem rk1.kept {V V' : Int → Int → Int} {b : Int} {q : gbB} (h : rk1 V b q) (hf : ∀ x, 776 ≤ x → x ≤ 799 → V' x = V x) : rk1 V' b q := by
  refine ⟨h.1.kept hf, h.2.1.kept hf, ?_⟩
  rw [hf 786 (by omega) (by omega), hf 787 (by omega) (by omega), hf 788 (by omega) (by omega), hf 789 (by omega) (by omega)]
  exact h.2.2
theorem rhA.kept {V V' : Int → Int → Int} {b : Int} {q : gbH} (h : rhA V b q) (hf : ∀ x, 776 ≤ x → x ≤ 799 → V' x = V x) : rhA V' b q := by
  unfold rhA
  rw [hf 793 (by omega) (by omega), hf 794 (by omega) (by omega), hf 795 (by omega) (by omega), hf 796 (by omega) (by omega), hf 797 (by omega) (by omega), hf 798 (by omega) (by omega), hf 799 (by omega) (by omega)]
  exact h
theorem mdIs.look {V V' : Int → Int → Int} {S : gbS} (h : mdIs V S) (hf : qFr V V') : mdIs V' S := by
  have hf2 : ∀ x, 776 ≤ x → x ≤ 799 → V' x = V x := fun x h1 h2 => hf.1 x (by omega)
  refine ⟨by rw [hf.2.1]; exact h.1, h.2.1, by rw [hf.2.2.2]; exact h.2.2.1, fun b b0 b1 => (h.2.2.2.1 b b0 b1).kept hf2, h.2.2.2.2.1, fun b b0 b1 => (h.2.2.2.2.2.1 b b0 b1).kept hf2, ?_⟩
  unfold tdIs
  rw [hf.2.2.1, hf2 790 (by omega) (by omega)]
  exact h.2.2.2.2.2.2
theorem qFr.fr {V V' : Int → Int → Int} (h : qFr V V') : gFr V V' 775 819 := fun a ha => h.1 a (by omega)
theorem rbIs.wd {V : Int → Int → Int} {b i : Int} {tx : List Int} {gs : List gG} (h : rbIs V b tx gs) (h0 : 0 ≤ i) (h1 : i < tx.length) : V 777 (40 * b + i) = lat tx i := by
  have h2 := h.2.2.1 i.toNat tx[i.toNat] (List.getElem?_eq_getElem (by omega))
  rw [Int.toNat_of_nonneg h0] at h2
  rw [h2]
  unfold lat
  rw [if_neg (by omega), List.getD_eq_getElem?_getD, List.getElem?_eq_getElem (by omega)]
  rfl
theorem lat_out {xs : List Int} {i : Int} (h : ¬ (0 ≤ i ∧ i < xs.length)) : lat xs i = -1 := by
  unfold lat
  split
  · rfl
  · rw [List.getD_eq_getElem?_getD, List.getElem?_eq_none (by omega)]
    rfl
section MD2
variable {l : Launch} {E : gE} {d : Nat} {K : List gK} {R V : Int → Int → Int} {b h i w : Int} {Q : gQ} {S : gbS}
set_option maxRecDepth 4000 in
theorem m_fault (hM : mdK K R) (hS : mdIs V S) (hQ : ∀ V', qFr V V' → Q (some (gi (S.2.2.2))) (K, R, V')) : gC l E (d + 1) iX12_fault [ga 775] (K, R, V) Q := by
  refine gC_of kX12_fault (ls := [some (ga 775)]) rfl (Nat.le_of_ble_eq_true rfl) ?_
  refine gX_aloadn dX12_fault_0 rfl ?_
  refine gX_gI 17 dX12_fault_1 fdX12_55 rfl (Or.inl rfl) hM.1 ?_
  rw [hS.2.2.1]
  refine gX_iret dX12_fault_4 (Or.inl rfl) ?_
  exact hQ V qFr.rf
set_option maxRecDepth 4000 in
theorem m_word (hM : mdK K R) (hS : mdIs V S) (hQ : ∀ V', qFr V V' → Q (some (gi (aWord S b i))) (K, R, V')) : gC l E (d + 3) iX12_word [ga 775, gi b, gi i] (K, R, V) Q := by
  refine gC_of kX12_word (ls := [some (ga 775), some (gi b), some (gi i)]) rfl (Nat.le_of_ble_eq_true rfl) ?_
  have hn0 := hS.1
  have hn1 := hS.2.1
  refine gX_aloadn dX12_word_0 rfl ?_
  refine gX_iloadn dX12_word_1 rfl ?_
  refine gX_virt (J := iX12_isBook) (av := [gi b]) (a := 775) (st := []) dX12_word_2 lkX12_371 kX12_isBook vX12_isBook (gFit_m (by decide)) hM.1 rfl rfl (Nat.le_of_ble_eq_true rfl) (Nat.zero_le _) (Nat.zero_le _) rfl ?_
  refine m_isBook hM hS.1 hS.2.1 ?_
  show gX l E _ 5 [some (ga 775), some (gi b), some (gi i)] [gi (b2i (inR b 0 ((S.1.length : Int) - 1)))] (K, R, V) _ _
  refine gX_ifne (tgt := 12) dX12_word_5 (by decide) (fun w1 => ?_) (fun w1 => ?_)
  · have w1 := inR_1 w1
    have hr : 0 ≤ b ∧ b < S.1.length := ⟨by omega, by omega⟩
    obtain ⟨q, eq⟩ : ∃ q, q = gbq S b := ⟨_, rfl⟩
    have hk := hS.2.2.2.1 b hr.1 hr.2
    rw [← eq] at hk
    have hq40 := hk.1.2.1
    refine gX_iloadn dX12_word_12 rfl ?_
    refine gX_i2l dX12_word_13 ?_
    refine gX_lconst (x := 0) dX12_word_14 (by decide) ⟨by decide, by decide⟩ ?_
    refine gX_aloadn dX12_word_15 rfl ?_
    refine gX_gR 1 dX12_word_16 fdX12_7 rfl rfl hM.1 (mR1 hM) ?_
    refine gX_iloadn dX12_word_19 rfl ?_
    refine gX_iald dX12_word_20 (mA1 hM) (by omega) (by omega) ?_
    rw [hk.1.1]
    refine gX_iconst dX12_word_21 ⟨by decide, by decide⟩ ?_
    refine gX_isub dX12_word_22 ⟨by omega, by omega⟩ ?_
    refine gX_i2l dX12_word_23 ?_
    refine gX_stat (J := iX12_in) (av := [gl i, gl 0, gl ((q.1.length : Int) - 1)]) (st := []) dX12_word_24 lkX12_154 kX12_in sX12_in (gFit_m (by decide)) rfl (Nat.le_of_ble_eq_true rfl) (Nat.zero_le _) (Nat.zero_le _) rfl ?_
    refine m_in ?_
    show gX l E _ 27 [some (ga 775), some (gi b), some (gi i)] [gi (b2i (inR i 0 ((q.1.length : Int) - 1)))] (K, R, V) _ _
    refine gX_ifeq (tgt := 44) dX12_word_27 (by decide) (fun w2 => ?_) (fun w2 => ?_)
    · have w2 := inR_0 w2
      refine gX_iconst dX12_word_44 ⟨by decide, by decide⟩ ?_
      refine gX_iret dX12_word_45 (Or.inl rfl) ?_
      have ea : aWord S b i = -1 := by
        unfold aWord
        rw [if_pos hr, ← eq]
        exact lat_out (by omega)
      rw [ea] at hQ
      exact hQ V qFr.rf
    · have w2 := inR_1 w2
      refine gX_aloadn dX12_word_30 rfl ?_
      refine gX_gR 2 dX12_word_31 fdX12_13 rfl rfl hM.1 (mR2 hM) ?_
      refine gX_bipush dX12_word_34 (by decide) ⟨by decide, by decide⟩ ?_
      refine gX_iloadn dX12_word_36 rfl ?_
      refine gX_imul dX12_word_37 ⟨by omega, by omega⟩ ?_
      refine gX_iloadn dX12_word_38 rfl ?_
      refine gX_iadd dX12_word_39 ⟨by omega, by omega⟩ ?_
      refine gX_iald dX12_word_40 (mA2 hM) (by omega) (by omega) ?_
      rw [hk.1.wd (by omega) (by omega)]
      refine gX_goto (tgt := 45) dX12_word_41 (by decide) ?_
      refine gX_iret dX12_word_45 (Or.inl rfl) ?_
      have ea : aWord S b i = lat q.1 i := by
        unfold aWord
        rw [if_pos hr, ← eq]
      rw [ea] at hQ
      exact hQ V qFr.rf
  · have w1 := inR_0 w1
    refine gX_sipush dX12_word_8 (by decide) ⟨by decide, by decide⟩ ?_
    refine gX_iret dX12_word_11 (Or.inl rfl) ?_
    have ea : aWord S b i = -1001 := by
      unfold aWord
      rw [if_neg (by omega)]
    rw [ea] at hQ
    exact hQ V qFr.rf
set_option maxRecDepth 4000 in
theorem m_taken (hM : mdK K R) (hS : mdIs V S) (hex : 0 ≤ b ∧ b < S.1.length → -1 ≤ (gbq S b).2.2.1) (hQ : ∀ V', qFr V V' → Q (some (gi (aTaken S b h i))) (K, R, V')) : gC l E (d + 3) iX12_taken [ga 775, gi b, gi h, gi i] (K, R, V) Q := by
  refine gC_of kX12_taken (ls := [some (ga 775), some (gi b), some (gi h), some (gi i)]) rfl (Nat.le_of_ble_eq_true rfl) ?_
  have hn0 := hS.1
  have hn1 := hS.2.1
  refine gX_aloadn dX12_taken_0 rfl ?_
  refine gX_iloadn dX12_taken_1 rfl ?_
  refine gX_virt (J := iX12_isBook) (av := [gi b]) (a := 775) (st := []) dX12_taken_2 lkX12_371 kX12_isBook vX12_isBook (gFit_m (by decide)) hM.1 rfl rfl (Nat.le_of_ble_eq_true rfl) (Nat.zero_le _) (Nat.zero_le _) rfl ?_
  refine m_isBook hM hS.1 hS.2.1 ?_
  show gX l E _ 5 [some (ga 775), some (gi b), some (gi h), some (gi i)] [gi (b2i (inR b 0 ((S.1.length : Int) - 1)))] (K, R, V) _ _
  refine gX_ifne (tgt := 12) dX12_taken_5 (by decide) (fun w1 => ?_) (fun w1 => ?_)
  · have w1 := inR_1 w1
    have hr : 0 ≤ b ∧ b < S.1.length := ⟨by omega, by omega⟩
    obtain ⟨q, eq⟩ : ∃ q, q = gbq S b := ⟨_, rfl⟩
    have hk := hS.2.2.2.1 b hr.1 hr.2
    rw [← eq] at hk
    have hex9 := hex hr
    rw [← eq] at hex9
    refine gX_iloadn dX12_taken_12 rfl ?_
    refine gX_i2l dX12_taken_13 ?_
    refine gX_lconst (x := 0) dX12_taken_14 (by decide) ⟨by decide, by decide⟩ ?_
    refine gX_ldc2 (x := 5) dX12_taken_15 clX12_299 (by decide) ⟨by decide, by decide⟩ ?_
    refine gX_stat (J := iX12_in) (av := [gl h, gl 0, gl 5]) (st := []) dX12_taken_18 lkX12_154 kX12_in sX12_in (gFit_m (by decide)) rfl (Nat.le_of_ble_eq_true rfl) (Nat.zero_le _) (Nat.zero_le _) rfl ?_
    refine m_in ?_
    show gX l E _ 21 [some (ga 775), some (gi b), some (gi h), some (gi i)] [gi (b2i (inR h 0 5))] (K, R, V) _ _
    refine gX_ifne (tgt := 28) dX12_taken_21 (by decide) (fun w2 => ?_) (fun w2 => ?_)
    · have w2 := inR_1 w2
      refine gX_aloadn dX12_taken_28 rfl ?_
      refine gX_gR 11 dX12_taken_29 fdX12_40 rfl rfl hM.1 (mR11 hM) ?_
      refine gX_iloadn dX12_taken_32 rfl ?_
      refine gX_iald dX12_taken_33 (mA11 hM) (by omega) (by omega) ?_
      rw [hk.2.2.1]
      refine gX_ifge (tgt := 43) dX12_taken_34 (by decide) (fun w3 => ?_) (fun w3 => ?_)
      · refine gX_iloadn dX12_taken_43 rfl ?_
        refine gX_ifeq (tgt := 61) dX12_taken_44 (by decide) (fun w4 => ?_) (fun w4 => ?_)
        · refine gX_aloadn dX12_taken_61 rfl ?_
          refine gX_gR 13 dX12_taken_62 fdX12_46 rfl rfl hM.1 (mR13 hM) ?_
          refine gX_bipush dX12_taken_65 (by decide) ⟨by decide, by decide⟩ ?_
          refine gX_iloadn dX12_taken_67 rfl ?_
          refine gX_imul dX12_taken_68 ⟨by omega, by omega⟩ ?_
          refine gX_iloadn dX12_taken_69 rfl ?_
          refine gX_iadd dX12_taken_70 ⟨by omega, by omega⟩ ?_
          refine gX_iald dX12_taken_71 (mA13 hM) (by omega) (by omega) ?_
          rw [(hk.2.2.2.2 h (by omega) (by omega)).1]
          refine gX_iret dX12_taken_72 (Or.inl rfl) ?_
          have ea : aTaken S b h i = lat q.2.2.2.2.2 h := by
            unfold aTaken
            rw [if_pos hr, if_neg (by omega), ← eq, if_neg (by omega), if_pos (by omega)]
          rw [ea] at hQ
          exact hQ V qFr.rf
        · refine gX_aloadn dX12_taken_47 rfl ?_
          refine gX_gR 14 dX12_taken_48 fdX12_49 rfl rfl hM.1 (mR14 hM) ?_
          refine gX_bipush dX12_taken_51 (by decide) ⟨by decide, by decide⟩ ?_
          refine gX_iloadn dX12_taken_53 rfl ?_
          refine gX_imul dX12_taken_54 ⟨by omega, by omega⟩ ?_
          refine gX_iloadn dX12_taken_55 rfl ?_
          refine gX_iadd dX12_taken_56 ⟨by omega, by omega⟩ ?_
          refine gX_iald dX12_taken_57 (mA14 hM) (by omega) (by omega) ?_
          rw [(hk.2.2.2.2 h (by omega) (by omega)).2]
          refine gX_goto (tgt := 72) dX12_taken_58 (by decide) ?_
          refine gX_iret dX12_taken_72 (Or.inl rfl) ?_
          have ea : aTaken S b h i = lat q.2.2.2.2.1 h := by
            unfold aTaken
            rw [if_pos hr, if_neg (by omega), ← eq, if_neg (by omega), if_neg (by omega)]
          rw [ea] at hQ
          exact hQ V qFr.rf
      · refine gX_sipush dX12_taken_37 (by decide) ⟨by decide, by decide⟩ ?_
        refine gX_goto (tgt := 72) dX12_taken_40 (by decide) ?_
        refine gX_iret dX12_taken_72 (Or.inl rfl) ?_
        have ea : aTaken S b h i = -1003 := by
          unfold aTaken
          rw [if_pos hr, if_neg (by omega), ← eq, if_pos (by omega)]
        rw [ea] at hQ
        exact hQ V qFr.rf
    · have w2 := inR_0 w2
      refine gX_sipush dX12_taken_24 (by decide) ⟨by decide, by decide⟩ ?_
      refine gX_iret dX12_taken_27 (Or.inl rfl) ?_
      have ea : aTaken S b h i = -1002 := by
        unfold aTaken
        rw [if_pos hr, if_pos (by omega)]
      rw [ea] at hQ
      exact hQ V qFr.rf
  · have w1 := inR_0 w1
    refine gX_sipush dX12_taken_8 (by decide) ⟨by decide, by decide⟩ ?_
    refine gX_iret dX12_taken_11 (Or.inl rfl) ?_
    have ea : aTaken S b h i = -1001 := by
      unfold aTaken
      rw [if_neg (by omega)]
    rw [ea] at hQ
    exact hQ V qFr.rf
set_option maxRecDepth 4000 in
theorem m_count (hM : mdK K R) (hS : mdIs V S) (hex : ∀ b : Int, 0 ≤ b → b < S.1.length → -1 ≤ (gbq S b).2.2.1) (hQ : ∀ V', qFr V V' → Q (some (gi (aCount S w))) (K, R, V')) : gC l E (d + 1) iX12_count [ga 775, gi w] (K, R, V) Q := by
  refine gC_of kX12_count (ls := [some (ga 775), some (gi w), none, none]) rfl (Nat.le_of_ble_eq_true rfl) ?_
  have hn0 := hS.1
  have hn1 := hS.2.1
  have lp : ∀ (jj : Nat) (b : Int) (n : Int) (bc bs : Nat), (S.1.length : Int) - b < (jj : Int) → 0 ≤ b → b ≤ S.1.length → n = cntB (fun k => decide ((gbq S k).2.2.1 ≠ -1)) b.toNat → gX l E (gFm E (d + 1) iX12_count Q) 4 [some (ga 775), some (gi w), some (gi n), some (gi b)] [] (K, R, V) bc bs := by
    intro jj
    induction jj with
    | zero =>
      intro b n bc bs hj q0 q1 q2
      exfalso; omega
    | succ jj ih =>
      intro b n bc bs hj q0 q1 q2
      refine gX_iloadn dX12_count_4 rfl ?_
      refine gX_aloadn dX12_count_5 rfl ?_
      refine gX_gI 0 dX12_count_6 fdX12_151 rfl (Or.inl rfl) hM.1 ?_
      rw [hn0]
      refine gX_icmpge (tgt := 35) dX12_count_9 (by decide) (fun w1 => ?_) (fun w1 => ?_)
      · refine gX_iloadn dX12_count_35 rfl ?_
        refine gX_ifne (tgt := 46) dX12_count_36 (by decide) (fun w2 => ?_) (fun w2 => ?_)
        · refine gX_iloadn dX12_count_46 rfl ?_
          refine gX_iconst dX12_count_47 ⟨by decide, by decide⟩ ?_
          refine gX_icmpne (tgt := 58) dX12_count_48 (by decide) (fun w3 => ?_) (fun w3 => ?_)
          · refine gX_iloadn dX12_count_58 rfl ?_
            refine gX_iconst dX12_count_59 ⟨by decide, by decide⟩ ?_
            refine gX_icmpne (tgt := 67) dX12_count_60 (by decide) (fun w4 => ?_) (fun w4 => ?_)
            · refine gX_sipush dX12_count_67 (by decide) ⟨by decide, by decide⟩ ?_
              refine gX_iret dX12_count_70 (Or.inl rfl) ?_
              have ea : aCount S w = -1002 := by
                unfold aCount
                rw [if_neg (by omega), if_neg (by omega), if_neg (by omega)]
              rw [ea] at hQ
              exact hQ V qFr.rf
            · refine gX_iloadn dX12_count_63 rfl ?_
              refine gX_goto (tgt := 70) dX12_count_64 (by decide) ?_
              refine gX_iret dX12_count_70 (Or.inl rfl) ?_
              have ea : aCount S w = n := by
                unfold aCount
                rw [if_neg (by omega), if_neg (by omega), if_pos (by omega)]
                unfold copC
                rw [q2, show b.toNat = S.1.length by omega]
              rw [ea] at hQ
              exact hQ V qFr.rf
          · refine gX_aloadn dX12_count_51 rfl ?_
            refine gX_gI 16 dX12_count_52 fdX12_162 rfl (Or.inl rfl) hM.1 ?_
            rw [hS.2.2.2.2.2.2.1]
            refine gX_goto (tgt := 70) dX12_count_55 (by decide) ?_
            refine gX_iret dX12_count_70 (Or.inl rfl) ?_
            have ea : aCount S w = (S.2.2.1.length : Int) := by
              unfold aCount
              rw [if_neg (by omega), if_pos (by omega)]
            rw [ea] at hQ
            exact hQ V qFr.rf
        · refine gX_aloadn dX12_count_39 rfl ?_
          refine gX_gI 0 dX12_count_40 fdX12_151 rfl (Or.inl rfl) hM.1 ?_
          rw [hn0]
          refine gX_goto (tgt := 70) dX12_count_43 (by decide) ?_
          refine gX_iret dX12_count_70 (Or.inl rfl) ?_
          have ea : aCount S w = (S.1.length : Int) := by
            unfold aCount
            rw [if_pos (by omega)]
          rw [ea] at hQ
          exact hQ V qFr.rf
      · have hr : 0 ≤ b ∧ b < S.1.length := ⟨by omega, by omega⟩
        obtain ⟨q, eq⟩ : ∃ q, q = gbq S b := ⟨_, rfl⟩
        have hk := hS.2.2.2.1 b hr.1 hr.2
        rw [← eq] at hk
        have hcb := cntB_bd (fun k => decide ((gbq S k).2.2.1 ≠ -1)) b.toNat
        refine gX_iloadn dX12_count_12 rfl ?_
        refine gX_aloadn dX12_count_13 rfl ?_
        refine gX_gR 11 dX12_count_14 fdX12_40 rfl rfl hM.1 (mR11 hM) ?_
        refine gX_iloadn dX12_count_17 rfl ?_
        refine gX_iald dX12_count_18 (mA11 hM) (by omega) (by omega) ?_
        rw [hk.2.2.1]
        refine gX_iflt (tgt := 26) dX12_count_19 (by decide) (fun w5 => ?_) (fun w5 => ?_)
        · refine gX_iconst dX12_count_26 ⟨by decide, by decide⟩ ?_
          refine gX_iadd dX12_count_27 ⟨by omega, by omega⟩ ?_
          refine gX_istoren dX12_count_28 (show (2 : Nat) < 4 from by decide) (ls2 := [some (ga 775), some (gi w), some (gi (n + 0)), some (gi b)]) rfl ?_
          refine gX_iinc dX12_count_29 rfl (show (3 : Nat) < 4 from by decide) ⟨by omega, by omega⟩ (ls2 := [some (ga 775), some (gi w), some (gi (n + 0)), some (gi (b + 1))]) rfl ?_
          refine gX_goto (tgt := 4) dX12_count_32 (by decide) ?_
          have eb : (b + 1).toNat = b.toNat + 1 := by omega
          have en : ((b.toNat : Nat) : Int) = b := by omega
          refine ih (b + 1) _ _ _ (by omega) (by omega) (by omega) ?_
          rw [eb, cntB_s, ← q2]
          show _ = n + (if decide ((gbq S ((b.toNat : Nat) : Int)).2.2.1 ≠ -1) = true then 1 else 0)
          rw [en, ← eq]
          have hex9 := hex b (by omega) (by omega)
          rw [← eq] at hex9
          rw [if_neg (by simp only [decide_eq_true_eq]; omega)]
        · refine gX_iconst dX12_count_22 ⟨by decide, by decide⟩ ?_
          refine gX_goto (tgt := 27) dX12_count_23 (by decide) ?_
          refine gX_iadd dX12_count_27 ⟨by omega, by omega⟩ ?_
          refine gX_istoren dX12_count_28 (show (2 : Nat) < 4 from by decide) (ls2 := [some (ga 775), some (gi w), some (gi (n + 1)), some (gi b)]) rfl ?_
          refine gX_iinc dX12_count_29 rfl (show (3 : Nat) < 4 from by decide) ⟨by omega, by omega⟩ (ls2 := [some (ga 775), some (gi w), some (gi (n + 1)), some (gi (b + 1))]) rfl ?_
          refine gX_goto (tgt := 4) dX12_count_32 (by decide) ?_
          have eb : (b + 1).toNat = b.toNat + 1 := by omega
          have en : ((b.toNat : Nat) : Int) = b := by omega
          refine ih (b + 1) _ _ _ (by omega) (by omega) (by omega) ?_
          rw [eb, cntB_s, ← q2]
          show _ = n + (if decide ((gbq S ((b.toNat : Nat) : Int)).2.2.1 ≠ -1) = true then 1 else 0)
          rw [en, ← eq]
          have hex9 := hex b (by omega) (by omega)
          rw [← eq] at hex9
          rw [if_pos (by simp only [decide_eq_true_eq]; omega)]
  refine gX_iconst dX12_count_0 ⟨by decide, by decide⟩ ?_
  refine gX_istoren dX12_count_1 (show (2 : Nat) < 4 from by decide) (ls2 := [some (ga 775), some (gi w), some (gi 0), none]) rfl ?_
  refine gX_iconst dX12_count_2 ⟨by decide, by decide⟩ ?_
  refine gX_istoren dX12_count_3 (show (3 : Nat) < 4 from by decide) (ls2 := [some (ga 775), some (gi w), some (gi 0), some (gi 0)]) rfl ?_
  exact lp 11 0 0 _ _ (by omega) (by omega) (by omega) rfl
set_option maxRecDepth 4000 in
theorem m_habit (hM : mdK K R) (hS : mdIs V S) (hQ : ∀ V', qFr V V' → Q (some (gi (aHabit S h w))) (K, R, V')) : gC l E (d + 2) iX12_habit [ga 775, gi h, gi w] (K, R, V) Q := by
  refine gC_of kX12_habit (ls := [some (ga 775), some (gi h), some (gi w)]) rfl (Nat.le_of_ble_eq_true rfl) ?_
  have hn0 := hS.1
  have hn1 := hS.2.1
  refine gX_iloadn dX12_habit_0 rfl ?_
  refine gX_i2l dX12_habit_1 ?_
  refine gX_lconst (x := 0) dX12_habit_2 (by decide) ⟨by decide, by decide⟩ ?_
  refine gX_ldc2 (x := 3) dX12_habit_3 clX12_294 (by decide) ⟨by decide, by decide⟩ ?_
  refine gX_stat (J := iX12_in) (av := [gl h, gl 0, gl 3]) (st := []) dX12_habit_6 lkX12_154 kX12_in sX12_in (gFit_m (by decide)) rfl (Nat.le_of_ble_eq_true rfl) (Nat.zero_le _) (Nat.zero_le _) rfl ?_
  refine m_in ?_
  show gX l E _ 9 [some (ga 775), some (gi h), some (gi w)] [gi (b2i (inR h 0 3))] (K, R, V) _ _
  refine gX_ifne (tgt := 16) dX12_habit_9 (by decide) (fun w1 => ?_) (fun w1 => ?_)
  · have w1 := inR_1 w1
    have hr : 0 ≤ h ∧ h < 4 := ⟨by omega, by omega⟩
    obtain ⟨q, eq⟩ : ∃ q, q = ghq S h := ⟨_, rfl⟩
    have hk := hS.2.2.2.2.2.1 h hr.1 hr.2
    rw [← eq] at hk
    refine gX_iloadn dX12_habit_16 rfl ?_
    by_cases w2 : w = 0
    · refine gX_lookup (tgt := 52) (off := 35) dX12_habit_17 (by decide) (if_pos w2.symm) (by decide) ?_
      refine gX_aloadn dX12_habit_52 rfl ?_
      refine gX_gR 29 dX12_habit_53 fdX12_65 rfl rfl hM.1 (mR29 hM) ?_
      refine gX_iloadn dX12_habit_56 rfl ?_
      refine gX_iald dX12_habit_57 (mA29 hM) (by omega) (by omega) ?_
      rw [hk.1]
      refine gX_iret dX12_habit_58 (Or.inl rfl) ?_
      have ea : aHabit S h w = (q.1.length : Int) := by
        unfold aHabit
        rw [if_pos hr, ← eq, if_pos (by omega)]
      rw [ea] at hQ
      exact hQ V qFr.rf
    by_cases w3 : w = 6
    · refine gX_lookup (tgt := 59) (off := 42) dX12_habit_17 (by decide) ((if_neg (fun z => w2 z.symm)).trans (if_pos w3.symm)) (by decide) ?_
      refine gX_aloadn dX12_habit_59 rfl ?_
      refine gX_gR 34 dX12_habit_60 fdX12_80 rfl rfl hM.1 (mR34 hM) ?_
      refine gX_iloadn dX12_habit_63 rfl ?_
      refine gX_iald dX12_habit_64 (mA34 hM) (by omega) (by omega) ?_
      rw [hk.2.2.2.2.1]
      refine gX_iret dX12_habit_65 (Or.inl rfl) ?_
      have ea : aHabit S h w = q.2.2.2.2.1 := by
        unfold aHabit
        rw [if_pos hr, ← eq, if_neg (by omega), if_neg (by omega), if_pos (by omega)]
      rw [ea] at hQ
      exact hQ V qFr.rf
    by_cases w4 : w = 7
    · refine gX_lookup (tgt := 66) (off := 49) dX12_habit_17 (by decide) ((if_neg (fun z => w2 z.symm)).trans ((if_neg (fun z => w3 z.symm)).trans (if_pos w4.symm))) (by decide) ?_
      refine gX_aloadn dX12_habit_66 rfl ?_
      refine gX_gR 35 dX12_habit_67 fdX12_83 rfl rfl hM.1 (mR35 hM) ?_
      refine gX_iloadn dX12_habit_70 rfl ?_
      refine gX_iald dX12_habit_71 (mA35 hM) (by omega) (by omega) ?_
      rw [hk.2.2.2.2.2]
      refine gX_iret dX12_habit_72 (Or.inl rfl) ?_
      have ea : aHabit S h w = q.2.2.2.2.2 := by
        unfold aHabit
        rw [if_pos hr, ← eq, if_neg (by omega), if_neg (by omega), if_neg (by omega), if_pos (by omega)]
      rw [ea] at hQ
      exact hQ V qFr.rf
    refine gX_lookup (tgt := 73) (off := 56) dX12_habit_17 (by decide) ((if_neg (fun z => w2 z.symm)).trans ((if_neg (fun z => w3 z.symm)).trans (if_neg (fun z => w4 z.symm)))) (by decide) ?_
    refine gX_iloadn dX12_habit_73 rfl ?_
    refine gX_i2l dX12_habit_74 ?_
    refine gX_lconst (x := 1) dX12_habit_75 (by decide) ⟨by decide, by decide⟩ ?_
    refine gX_ldc2 (x := 5) dX12_habit_76 clX12_299 (by decide) ⟨by decide, by decide⟩ ?_
    refine gX_stat (J := iX12_in) (av := [gl w, gl 1, gl 5]) (st := []) dX12_habit_79 lkX12_154 kX12_in sX12_in (gFit_m (by decide)) rfl (Nat.le_of_ble_eq_true rfl) (Nat.zero_le _) (Nat.zero_le _) rfl ?_
    refine m_in ?_
    show gX l E _ 82 [some (ga 775), some (gi h), some (gi w)] [gi (b2i (inR w 1 5))] (K, R, V) _ _
    refine gX_ifeq (tgt := 99) dX12_habit_82 (by decide) (fun w5 => ?_) (fun w5 => ?_)
    · have w5 := inR_0 w5
      refine gX_sipush dX12_habit_99 (by decide) ⟨by decide, by decide⟩ ?_
      refine gX_iret dX12_habit_102 (Or.inl rfl) ?_
      have ea : aHabit S h w = -1002 := by
        unfold aHabit
        rw [if_pos hr, if_neg (by omega), if_neg (by omega), if_neg (by omega), if_neg (by omega)]
      rw [ea] at hQ
      exact hQ V qFr.rf
    · have w5 := inR_1 w5
      refine gX_aloadn dX12_habit_85 rfl ?_
      refine gX_gR 33 dX12_habit_86 fdX12_77 rfl rfl hM.1 (mR33 hM) ?_
      refine gX_bipush dX12_habit_89 (by decide) ⟨by decide, by decide⟩ ?_
      refine gX_iloadn dX12_habit_91 rfl ?_
      refine gX_imul dX12_habit_92 ⟨by omega, by omega⟩ ?_
      refine gX_iloadn dX12_habit_93 rfl ?_
      refine gX_iadd dX12_habit_94 ⟨by omega, by omega⟩ ?_
      refine gX_iald dX12_habit_95 (mA33 hM) (by omega) (by omega) ?_
      rw [hk.2.2.2.1 w (by omega) (by omega)]
      refine gX_goto (tgt := 102) dX12_habit_96 (by decide) ?_
      refine gX_iret dX12_habit_102 (Or.inl rfl) ?_
      have ea : aHabit S h w = lat q.2.2.2.1 w := by
        unfold aHabit
        rw [if_pos hr, ← eq, if_neg (by omega), if_pos (by omega)]
      rw [ea] at hQ
      exact hQ V qFr.rf
  · have w1 := inR_0 w1
    refine gX_sipush dX12_habit_12 (by decide) ⟨by decide, by decide⟩ ?_
    refine gX_iret dX12_habit_15 (Or.inl rfl) ?_
    have ea : aHabit S h w = -1001 := by
      unfold aHabit
      rw [if_neg (by omega)]
    rw [ea] at hQ
    exact hQ V qFr.rf
end MD2
