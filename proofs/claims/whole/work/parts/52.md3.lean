/-! The reference: books beside one another. Written by wip/whole/tools/mk_md3.py. -/
def txI (V : Int → Int → Int) (b : Int) (tx : List Int) : Prop := V 776 b = tx.length ∧ tx.length ≤ 40 ∧ ∀ i : Int, 0 ≤ i → i < tx.length → V 777 (40 * b + i) = lat tx i
theorem rbIs.tx {V : Int → Int → Int} {b : Int} {tx : List Int} {gs : List gG} (h : rbIs V b tx gs) : txI V b tx := ⟨h.1, h.2.1, fun i h0 h1 => h.wd h0 h1⟩
theorem txI.kept {V V' : Int → Int → Int} {b : Int} {tx : List Int} (h : txI V b tx) (h1 : V' 776 = V 776) (h2 : V' 777 = V 777) : txI V' b tx := by
  unfold txI
  rw [h1, h2]
  exact h
def pcM (xs ys : List Int) (i j : Int) : Int := if lat xs i = lat ys j then 0 else 1
theorem pcM_bd (xs ys : List Int) (i j : Int) : 0 ≤ pcM xs ys i j ∧ pcM xs ys i j ≤ 1 := by unfold pcM; split <;> omega
theorem lat_in {xs : List Int} {i : Int} (h0 : 0 ≤ i) (h1 : i.toNat < xs.length) : lat xs i = xs[i.toNat] := by
  unfold lat
  rw [if_neg (by omega), List.getD_eq_getElem?_getD, List.getElem?_eq_getElem h1]
  rfl
def dd (xs ys : List Int) (i j : Int) : Int := Dd xs ys i.toNat j.toNat
theorem dd_top {xs ys : List Int} {i j : Int} (h : i = xs.length) (h0 : 0 ≤ j) (h1 : j ≤ ys.length) : dd xs ys i j = ys.length - j := by
  unfold dd
  rw [Dd_top xs ys (by omega) (by omega)]
  omega
theorem dd_right {xs ys : List Int} {i j : Int} (h : j = ys.length) (h0 : 0 ≤ i) (h1 : i ≤ xs.length) : dd xs ys i j = xs.length - i := by
  unfold dd
  rw [Dd_right xs ys (by omega) (by omega)]
  omega
theorem pcM_eq {xs ys : List Int} {i j : Int} (h0 : 0 ≤ i) (h1 : i.toNat < xs.length) (g0 : 0 ≤ j) (g1 : j.toNat < ys.length) : (if xs[i.toNat] = ys[j.toNat] then (0 : Int) else 1) = pcM xs ys i j := by
  unfold pcM
  rw [lat_in h0 h1, lat_in g0 g1]
theorem dd_step {xs ys : List Int} {i j : Int} (h0 : 0 ≤ i) (h1 : i < xs.length) (g0 : 0 ≤ j) (g1 : j < ys.length) : dd xs ys i j = min (dd xs ys (i + 1) (j + 1) + pcM xs ys i j) (min (dd xs ys (i + 1) j) (dd xs ys i (j + 1)) + 1) := by
  have a1 : i.toNat < xs.length := by omega
  have a2 : j.toNat < ys.length := by omega
  unfold dd
  rw [show (i + 1).toNat = i.toNat + 1 by omega, show (j + 1).toNat = j.toNat + 1 by omega, Dd_step xs ys a1 a2, pcM_eq h0 a1 g0 a2]
theorem dd_bd {xs ys : List Int} (hx : xs.length ≤ 40) (hy : ys.length ≤ 40) (i j : Int) : 0 ≤ dd xs ys i j ∧ dd xs ys i j ≤ 80 := by
  have := Dd_nn xs ys i.toNat j.toNat
  have := Dd_le xs ys i.toNat j.toNat
  unfold dd
  omega
theorem alg_st {xs ys : List Int} {i j : Int} (h0 : 0 ≤ i) (h1 : i < xs.length) (g0 : 0 ≤ j) (g1 : j < ys.length) (c : Int) : alg (xs.drop i.toNat) (ys.drop j.toNat) c = if dd xs ys i j = dd xs ys (i + 1) (j + 1) + pcM xs ys i j then c :: alg (xs.drop (i + 1).toNat) (ys.drop (j + 1).toNat) (c + 1) else if dd xs ys i j = dd xs ys (i + 1) j + 1 then -1 :: alg (xs.drop (i + 1).toNat) (ys.drop j.toNat) c else alg (xs.drop i.toNat) (ys.drop (j + 1).toNat) (c + 1) := by
  have a1 : i.toNat < xs.length := by omega
  have a2 : j.toNat < ys.length := by omega
  unfold dd
  rw [show (i + 1).toNat = i.toNat + 1 by omega, show (j + 1).toNat = j.toNat + 1 by omega, alg_drop a1 a2, pcM_eq h0 a1 g0 a2]
theorem alg_rt {xs ys : List Int} {i j : Int} (h0 : 0 ≤ i) (h1 : i < xs.length) (g1 : (ys.length : Int) ≤ j) (c : Int) : alg (xs.drop i.toNat) (ys.drop j.toNat) c = -1 :: alg (xs.drop (i + 1).toNat) (ys.drop j.toNat) c := by
  rw [show (i + 1).toNat = i.toNat + 1 by omega, alg_drop_r (by omega) (by omega)]
theorem alg_tp {xs ys : List Int} {i j : Int} (h1 : (xs.length : Int) ≤ i) (c : Int) : alg (xs.drop i.toNat) (ys.drop j.toNat) c = [] := by
  rw [List.drop_eq_nil_of_le (by omega), alg_nil]
def cM (V : Int → Int → Int) (xs ys : List Int) (i j : Int) : Prop := ∀ i' j' : Int, 0 ≤ i' → i' ≤ xs.length → 0 ≤ j' → j' ≤ ys.length → (i < i' ∨ (i' = i ∧ j ≤ j')) → V 813 (41 * i' + j') = dd xs ys i' j'
theorem cM.at {V : Int → Int → Int} {xs ys : List Int} {i j : Int} (h : cM V xs ys i j) {i' j' k : Int} (hk : k = 41 * i' + j') (h0 : 0 ≤ i') (h1 : i' ≤ xs.length) (h2 : 0 ≤ j') (h3 : j' ≤ ys.length) (h4 : i < i' ∨ (i' = i ∧ j ≤ j')) : V 813 k = dd xs ys i' j' := by rw [hk]; exact h i' j' h0 h1 h2 h3 h4
theorem cM.up {V : Int → Int → Int} {xs ys : List Int} {i j x : Int} (h : cM V xs ys i (j + 1)) (hy : ys.length ≤ 40) (h1 : 0 ≤ j) (h2 : j ≤ ys.length) (hx : x = dd xs ys i j) : cM (gup V 813 (41 * i + j) x) xs ys i j := by
  intro i' j' a0 a1 a2 a3 a4
  unfold gup
  by_cases e : i' = i ∧ j' = j
  · obtain ⟨e1, e2⟩ := e
    subst e1 e2
    rw [if_pos ⟨rfl, rfl⟩]
    exact hx
  · rw [if_neg (by omega)]
    exact h i' j' a0 a1 a2 a3 (by omega)
/-- nothing but the cells of costs has changed -/
def cFr (V V' : Int → Int → Int) : Prop := ∀ a, a ≠ 813 → V' a = V a
theorem cFr.q {V V' : Int → Int → Int} (h : cFr V V') : qFr V V' := ⟨fun a ha => h a (by omega), by rw [h 775 (by omega)], by rw [h 775 (by omega)], by rw [h 775 (by omega)]⟩
section MD3
variable {l : Launch} {E : gE} {d : Nat} {K : List gK} {R V : Int → Int → Int} {a b i j w : Int} {Q : gQ} {S : gbS} {xs ys : List Int}
set_option maxRecDepth 4000 in
theorem m_pairCost (hM : mdK K R) (ha : 0 ≤ a ∧ a ≤ 10) (hb : 0 ≤ b ∧ b ≤ 10) (hx : txI V a xs) (hy : txI V b ys) (hi : 0 ≤ i ∧ i < xs.length) (hj : 0 ≤ j ∧ j < ys.length) (hQ : Q (some (gi (pcM xs ys i j))) (K, R, V)) : gC l E (d + 1) iX12_pairCost [ga 775, gi a, gi i, gi b, gi j] (K, R, V) Q := by
  refine gC_of kX12_pairCost (ls := [some (ga 775), some (gi a), some (gi i), some (gi b), some (gi j)]) rfl (Nat.le_of_ble_eq_true rfl) ?_
  have hx40 := hx.2.1
  have hy40 := hy.2.1
  refine gX_aloadn dX12_pairCost_0 rfl ?_
  refine gX_gR 2 dX12_pairCost_1 fdX12_13 rfl rfl hM.1 (mR2 hM) ?_
  refine gX_bipush dX12_pairCost_4 (by decide) ⟨by decide, by decide⟩ ?_
  refine gX_iloadn dX12_pairCost_6 rfl ?_
  refine gX_imul dX12_pairCost_7 ⟨by omega, by omega⟩ ?_
  refine gX_iloadn dX12_pairCost_8 rfl ?_
  refine gX_iadd dX12_pairCost_9 ⟨by omega, by omega⟩ ?_
  refine gX_iald dX12_pairCost_10 (mA2 hM) (by omega) (by omega) ?_
  rw [hx.2.2 i hi.1 hi.2]
  refine gX_aloadn dX12_pairCost_11 rfl ?_
  refine gX_gR 2 dX12_pairCost_12 fdX12_13 rfl rfl hM.1 (mR2 hM) ?_
  refine gX_bipush dX12_pairCost_15 (by decide) ⟨by decide, by decide⟩ ?_
  refine gX_iloadn dX12_pairCost_17 rfl ?_
  refine gX_imul dX12_pairCost_18 ⟨by omega, by omega⟩ ?_
  refine gX_iload dX12_pairCost_19 rfl ?_
  refine gX_iadd dX12_pairCost_21 ⟨by omega, by omega⟩ ?_
  refine gX_iald dX12_pairCost_22 (mA2 hM) (by omega) (by omega) ?_
  rw [hy.2.2 j hj.1 hj.2]
  refine gX_icmpne (tgt := 30) dX12_pairCost_23 (by decide) (fun w1 => ?_) (fun w1 => ?_)
  · refine gX_iconst dX12_pairCost_30 ⟨by decide, by decide⟩ ?_
    refine gX_iret dX12_pairCost_31 (Or.inl rfl) ?_
    have ec : pcM xs ys i j = 1 := if_neg (by omega)
    rw [ec] at hQ
    exact hQ
  · refine gX_iconst dX12_pairCost_26 ⟨by decide, by decide⟩ ?_
    refine gX_goto (tgt := 31) dX12_pairCost_27 (by decide) ?_
    refine gX_iret dX12_pairCost_31 (Or.inl rfl) ?_
    have ec : pcM xs ys i j = 0 := if_pos (by omega)
    rw [ec] at hQ
    exact hQ
set_option maxRecDepth 4000 in
theorem m_least (hM : mdK K R) (ha : 0 ≤ a ∧ a ≤ 10) (hb : 0 ≤ b ∧ b ≤ 10) (hx : txI V a xs) (hy : txI V b ys) (hQ : ∀ V', (∀ i j : Int, 0 ≤ i → i ≤ xs.length → 0 ≤ j → j ≤ ys.length → V' 813 (41 * i + j) = dd xs ys i j) → cFr V V' → Q (some (gi (dd xs ys 0 0))) (K, R, V')) : gC l E (d + 2) iX12_least [ga 775, gi a, gi b] (K, R, V) Q := by
  refine gC_of kX12_least (ls := [some (ga 775), some (gi a), some (gi b), none, none, none, none, none, none, none]) rfl (Nat.le_of_ble_eq_true rfl) ?_
  have hx40 := hx.2.1
  have hy40 := hy.2.1
  have lp : ∀ (jj : Nat) (i : Int) (j6 : Option gV) (j7 : Option gV) (j8 : Option gV) (j9 : Option gV) (V1 : Int → Int → Int) (bc bs : Nat), i + 1 < (jj : Int) → -1 ≤ i → i ≤ (xs.length : Int) → cM V1 xs ys (i + 1) 0 → cFr V V1 → gX l E (gFm E (d + 2) iX12_least Q) 18 [some (ga 775), some (gi a), some (gi b), some (gi (xs.length : Int)), some (gi (ys.length : Int)), some (gi i), j6, j7, j8, j9] [] (K, R, V1) bc bs := by
    intro jj
    induction jj with
    | zero =>
      intro i j6 j7 j8 j9 V1 bc bs hj q0 q1 hc1 hf1
      exfalso; omega
    | succ jj ih =>
      intro i j6 j7 j8 j9 V1 bc bs hj q0 q1 hc1 hf1
      refine gX_iload dX12_least_18 rfl ?_
      refine gX_iflt (tgt := 203) dX12_least_20 (by decide) (fun m1 => ?_) (fun m1 => ?_)
      · refine gX_aloadn dX12_least_203 rfl ?_
        refine gX_gR 57 dX12_least_204 fdX12_126 rfl rfl hM.1 (mR57 hM) ?_
        refine gX_iconst dX12_least_207 ⟨by decide, by decide⟩ ?_
        refine gX_iald dX12_least_208 (mA57 hM) (by omega) (by omega) ?_
        rw [hc1.at (i' := 0) (j' := 0) (by omega) (by omega) (by omega) (by omega) (by omega) (by omega)]
        refine gX_iret dX12_least_209 (Or.inl rfl) ?_
        exact hQ V1 (fun i2 j2 a0 a1 a2 a3 => hc1 i2 j2 a0 a1 a2 a3 (by omega)) hf1
      · refine gX_iload dX12_least_23 rfl ?_
        refine gX_istore dX12_least_25 (show (6 : Nat) < 10 from by decide) (ls2 := [some (ga 775), some (gi a), some (gi b), some (gi (xs.length : Int)), some (gi (ys.length : Int)), some (gi i), some (gi (ys.length : Int)), j7, j8, j9]) rfl ?_
        have lq : ∀ (jj : Nat) (j : Int) (j7 : Option gV) (j8 : Option gV) (j9 : Option gV) (V2 : Int → Int → Int) (bc bs : Nat), j + 1 < (jj : Int) → -1 ≤ j → j ≤ (ys.length : Int) → cM V2 xs ys i (j + 1) → cFr V V2 → (∀ V' j6 j7 j8 j9 bc bs, cM V' xs ys i 0 → cFr V V' → gX l E (gFm E (d + 2) iX12_least Q) 197 [some (ga 775), some (gi a), some (gi b), some (gi (xs.length : Int)), some (gi (ys.length : Int)), some (gi i), j6, j7, j8, j9] [] (K, R, V') bc bs) → gX l E (gFm E (d + 2) iX12_least Q) 27 [some (ga 775), some (gi a), some (gi b), some (gi (xs.length : Int)), some (gi (ys.length : Int)), some (gi i), some (gi j), j7, j8, j9] [] (K, R, V2) bc bs := by
          intro jj
          induction jj with
          | zero =>
            intro j j7 j8 j9 V2 bc bs hj k0 k1 hc2 hf2 hk2
            exfalso; omega
          | succ jj ih =>
            intro j j7 j8 j9 V2 bc bs hj k0 k1 hc2 hf2 hk2
            refine gX_iload dX12_least_27 rfl ?_
            refine gX_iflt (tgt := 197) dX12_least_29 (by decide) (fun w1 => ?_) (fun w1 => ?_)
            · rw [show j + 1 = 0 by omega] at hc2
              exact hk2 V2 _ _ _ _ _ _ hc2 hf2
            · refine gX_iload dX12_least_32 rfl ?_
              refine gX_iloadn dX12_least_34 rfl ?_
              refine gX_icmpne (tgt := 46) dX12_least_35 (by decide) (fun w2 => ?_) (fun w2 => ?_)
              · refine gX_iload dX12_least_46 rfl ?_
                refine gX_iload dX12_least_48 rfl ?_
                refine gX_icmpne (tgt := 60) dX12_least_50 (by decide) (fun w3 => ?_) (fun w3 => ?_)
                · refine gX_iconst dX12_least_60 ⟨by decide, by decide⟩ ?_
                  refine gX_istore dX12_least_61 (show (7 : Nat) < 10 from by decide) (ls2 := [some (ga 775), some (gi a), some (gi b), some (gi (xs.length : Int)), some (gi (ys.length : Int)), some (gi i), some (gi j), some (gi 0), j8, j9]) rfl ?_
                  refine gX_iload dX12_least_63 rfl ?_
                  refine gX_iloadn dX12_least_65 rfl ?_
                  refine gX_icmpge (tgt := 176) dX12_least_66 (by decide) (fun w4 => ?_) (fun w4 => ?_)
                  · refine gX_aloadn dX12_least_176 rfl ?_
                    refine gX_gR 57 dX12_least_177 fdX12_126 rfl rfl hM.1 (mR57 hM) ?_
                    refine gX_bipush dX12_least_180 (by decide) ⟨by decide, by decide⟩ ?_
                    refine gX_iload dX12_least_182 rfl ?_
                    refine gX_imul dX12_least_184 ⟨by omega, by omega⟩ ?_
                    refine gX_iload dX12_least_185 rfl ?_
                    refine gX_iadd dX12_least_187 ⟨by omega, by omega⟩ ?_
                    refine gX_iload dX12_least_188 rfl ?_
                    refine gX_iast dX12_least_190 (mA57 hM) (by omega) (by omega) ?_
                    refine gX_iinc dX12_least_191 rfl (show (6 : Nat) < 10 from by decide) ⟨by omega, by omega⟩ (ls2 := [some (ga 775), some (gi a), some (gi b), some (gi (xs.length : Int)), some (gi (ys.length : Int)), some (gi i), some (gi (j + (-1))), some (gi 0), j8, j9]) rfl ?_
                    refine gX_goto (tgt := 27) dX12_least_194 (by decide) ?_
                    exfalso
                    omega
                  · refine gX_iload dX12_least_69 rfl ?_
                    refine gX_iload dX12_least_71 rfl ?_
                    refine gX_icmpge (tgt := 176) dX12_least_73 (by decide) (fun w5 => ?_) (fun w5 => ?_)
                    · refine gX_aloadn dX12_least_176 rfl ?_
                      refine gX_gR 57 dX12_least_177 fdX12_126 rfl rfl hM.1 (mR57 hM) ?_
                      refine gX_bipush dX12_least_180 (by decide) ⟨by decide, by decide⟩ ?_
                      refine gX_iload dX12_least_182 rfl ?_
                      refine gX_imul dX12_least_184 ⟨by omega, by omega⟩ ?_
                      refine gX_iload dX12_least_185 rfl ?_
                      refine gX_iadd dX12_least_187 ⟨by omega, by omega⟩ ?_
                      refine gX_iload dX12_least_188 rfl ?_
                      refine gX_iast dX12_least_190 (mA57 hM) (by omega) (by omega) ?_
                      refine gX_iinc dX12_least_191 rfl (show (6 : Nat) < 10 from by decide) ⟨by omega, by omega⟩ (ls2 := [some (ga 775), some (gi a), some (gi b), some (gi (xs.length : Int)), some (gi (ys.length : Int)), some (gi i), some (gi (j + (-1))), some (gi 0), j8, j9]) rfl ?_
                      refine gX_goto (tgt := 27) dX12_least_194 (by decide) ?_
                      exfalso
                      omega
                    · have c1 : V2 813 (41 * (i + 1) + j + 1) = dd xs ys (i + 1) (j + 1) := hc2.at (by omega) (by omega) (by omega) (by omega) (by omega) (by omega)
                      have c2 : V2 813 (41 * (i + 1) + j) = dd xs ys (i + 1) j := hc2.at (by omega) (by omega) (by omega) (by omega) (by omega) (by omega)
                      have c3 : V2 813 (41 * i + j + 1) = dd xs ys i (j + 1) := hc2.at (by omega) (by omega) (by omega) (by omega) (by omega) (by omega)
                      have b1 := dd_bd hx40 hy40 (i + 1) (j + 1)
                      have b2 := dd_bd hx40 hy40 (i + 1) j
                      have b3 := dd_bd hx40 hy40 i (j + 1)
                      have b4 := pcM_bd xs ys i j
                      have hst := dd_step (xs := xs) (ys := ys) (i := i) (j := j) (by omega) (by omega) (by omega) (by omega)
                      refine gX_aloadn dX12_least_76 rfl ?_
                      refine gX_gR 57 dX12_least_77 fdX12_126 rfl rfl hM.1 (mR57 hM) ?_
                      refine gX_bipush dX12_least_80 (by decide) ⟨by decide, by decide⟩ ?_
                      refine gX_iload dX12_least_82 rfl ?_
                      refine gX_iconst dX12_least_84 ⟨by decide, by decide⟩ ?_
                      refine gX_iadd dX12_least_85 ⟨by omega, by omega⟩ ?_
                      refine gX_imul dX12_least_86 ⟨by omega, by omega⟩ ?_
                      refine gX_iload dX12_least_87 rfl ?_
                      refine gX_iadd dX12_least_89 ⟨by omega, by omega⟩ ?_
                      refine gX_iconst dX12_least_90 ⟨by decide, by decide⟩ ?_
                      refine gX_iadd dX12_least_91 ⟨by omega, by omega⟩ ?_
                      refine gX_iald dX12_least_92 (mA57 hM) (by omega) (by omega) ?_
                      rw [c1]
                      refine gX_aloadn dX12_least_93 rfl ?_
                      refine gX_iloadn dX12_least_94 rfl ?_
                      refine gX_iload dX12_least_95 rfl ?_
                      refine gX_iloadn dX12_least_97 rfl ?_
                      refine gX_iload dX12_least_98 rfl ?_
                      refine gX_virt (J := iX12_pairCost) (av := [gi a, gi i, gi b, gi j]) (a := 775) (st := [gi (dd xs ys (i + 1) (j + 1))]) dX12_least_100 lkX12_415 kX12_pairCost vX12_pairCost (gFit_m (by decide)) hM.1 rfl rfl (Nat.le_of_ble_eq_true rfl) (Nat.zero_le _) (Nat.zero_le _) rfl ?_
                      refine m_pairCost hM ha hb (hx.kept (hf2 776 (by omega)) (hf2 777 (by omega))) (hy.kept (hf2 776 (by omega)) (hf2 777 (by omega))) ⟨by omega, by omega⟩ ⟨by omega, by omega⟩ ?_
                      show gX l E _ 103 [some (ga 775), some (gi a), some (gi b), some (gi (xs.length : Int)), some (gi (ys.length : Int)), some (gi i), some (gi j), some (gi 0), j8, j9] [gi (pcM xs ys i j), gi (dd xs ys (i + 1) (j + 1))] (K, R, V2) _ _
                      refine gX_iadd dX12_least_103 ⟨by omega, by omega⟩ ?_
                      refine gX_istore dX12_least_104 (show (7 : Nat) < 10 from by decide) (ls2 := [some (ga 775), some (gi a), some (gi b), some (gi (xs.length : Int)), some (gi (ys.length : Int)), some (gi i), some (gi j), some (gi ((dd xs ys (i + 1) (j + 1)) + (pcM xs ys i j))), j8, j9]) rfl ?_
                      refine gX_aloadn dX12_least_106 rfl ?_
                      refine gX_gR 57 dX12_least_107 fdX12_126 rfl rfl hM.1 (mR57 hM) ?_
                      refine gX_bipush dX12_least_110 (by decide) ⟨by decide, by decide⟩ ?_
                      refine gX_iload dX12_least_112 rfl ?_
                      refine gX_iconst dX12_least_114 ⟨by decide, by decide⟩ ?_
                      refine gX_iadd dX12_least_115 ⟨by omega, by omega⟩ ?_
                      refine gX_imul dX12_least_116 ⟨by omega, by omega⟩ ?_
                      refine gX_iload dX12_least_117 rfl ?_
                      refine gX_iadd dX12_least_119 ⟨by omega, by omega⟩ ?_
                      refine gX_iald dX12_least_120 (mA57 hM) (by omega) (by omega) ?_
                      rw [c2]
                      refine gX_iconst dX12_least_121 ⟨by decide, by decide⟩ ?_
                      refine gX_iadd dX12_least_122 ⟨by omega, by omega⟩ ?_
                      refine gX_istore dX12_least_123 (show (8 : Nat) < 10 from by decide) (ls2 := [some (ga 775), some (gi a), some (gi b), some (gi (xs.length : Int)), some (gi (ys.length : Int)), some (gi i), some (gi j), some (gi ((dd xs ys (i + 1) (j + 1)) + (pcM xs ys i j))), some (gi ((dd xs ys (i + 1) j) + 1)), j9]) rfl ?_
                      refine gX_aloadn dX12_least_125 rfl ?_
                      refine gX_gR 57 dX12_least_126 fdX12_126 rfl rfl hM.1 (mR57 hM) ?_
                      refine gX_bipush dX12_least_129 (by decide) ⟨by decide, by decide⟩ ?_
                      refine gX_iload dX12_least_131 rfl ?_
                      refine gX_imul dX12_least_133 ⟨by omega, by omega⟩ ?_
                      refine gX_iload dX12_least_134 rfl ?_
                      refine gX_iadd dX12_least_136 ⟨by omega, by omega⟩ ?_
                      refine gX_iconst dX12_least_137 ⟨by decide, by decide⟩ ?_
                      refine gX_iadd dX12_least_138 ⟨by omega, by omega⟩ ?_
                      refine gX_iald dX12_least_139 (mA57 hM) (by omega) (by omega) ?_
                      rw [c3]
                      refine gX_iconst dX12_least_140 ⟨by decide, by decide⟩ ?_
                      refine gX_iadd dX12_least_141 ⟨by omega, by omega⟩ ?_
                      refine gX_istore dX12_least_142 (show (9 : Nat) < 10 from by decide) (ls2 := [some (ga 775), some (gi a), some (gi b), some (gi (xs.length : Int)), some (gi (ys.length : Int)), some (gi i), some (gi j), some (gi ((dd xs ys (i + 1) (j + 1)) + (pcM xs ys i j))), some (gi ((dd xs ys (i + 1) j) + 1)), some (gi ((dd xs ys i (j + 1)) + 1))]) rfl ?_
                      refine gX_iload dX12_least_144 rfl ?_
                      refine gX_iload dX12_least_146 rfl ?_
                      refine gX_icmpge (tgt := 156) dX12_least_148 (by decide) (fun w6 => ?_) (fun w6 => ?_)
                      · refine gX_iload dX12_least_156 rfl ?_
                        refine gX_istore dX12_least_158 (show (7 : Nat) < 10 from by decide) (ls2 := [some (ga 775), some (gi a), some (gi b), some (gi (xs.length : Int)), some (gi (ys.length : Int)), some (gi i), some (gi j), some (gi ((dd xs ys (i + 1) (j + 1)) + (pcM xs ys i j))), some (gi ((dd xs ys (i + 1) j) + 1)), some (gi ((dd xs ys i (j + 1)) + 1))]) rfl ?_
                        refine gX_iload dX12_least_160 rfl ?_
                        refine gX_iload dX12_least_162 rfl ?_
                        refine gX_icmpge (tgt := 172) dX12_least_164 (by decide) (fun w7 => ?_) (fun w7 => ?_)
                        · refine gX_iload dX12_least_172 rfl ?_
                          refine gX_istore dX12_least_174 (show (7 : Nat) < 10 from by decide) (ls2 := [some (ga 775), some (gi a), some (gi b), some (gi (xs.length : Int)), some (gi (ys.length : Int)), some (gi i), some (gi j), some (gi ((dd xs ys (i + 1) (j + 1)) + (pcM xs ys i j))), some (gi ((dd xs ys (i + 1) j) + 1)), some (gi ((dd xs ys i (j + 1)) + 1))]) rfl ?_
                          refine gX_aloadn dX12_least_176 rfl ?_
                          refine gX_gR 57 dX12_least_177 fdX12_126 rfl rfl hM.1 (mR57 hM) ?_
                          refine gX_bipush dX12_least_180 (by decide) ⟨by decide, by decide⟩ ?_
                          refine gX_iload dX12_least_182 rfl ?_
                          refine gX_imul dX12_least_184 ⟨by omega, by omega⟩ ?_
                          refine gX_iload dX12_least_185 rfl ?_
                          refine gX_iadd dX12_least_187 ⟨by omega, by omega⟩ ?_
                          refine gX_iload dX12_least_188 rfl ?_
                          refine gX_iast dX12_least_190 (mA57 hM) (by omega) (by omega) ?_
                          refine gX_iinc dX12_least_191 rfl (show (6 : Nat) < 10 from by decide) ⟨by omega, by omega⟩ (ls2 := [some (ga 775), some (gi a), some (gi b), some (gi (xs.length : Int)), some (gi (ys.length : Int)), some (gi i), some (gi (j + (-1))), some (gi ((dd xs ys (i + 1) (j + 1)) + (pcM xs ys i j))), some (gi ((dd xs ys (i + 1) j) + 1)), some (gi ((dd xs ys i (j + 1)) + 1))]) rfl ?_
                          refine gX_goto (tgt := 27) dX12_least_194 (by decide) ?_
                          first
                          | (exfalso; omega)
                          | (have hdd : (dd xs ys (i + 1) (j + 1)) + (pcM xs ys i j) = dd xs ys i j := by omega
                             refine ih (j + (-1)) _ _ _ _ _ _ (by omega) (by omega) (by omega) (by rw [show j + (-1) + 1 = j by omega]; exact hc2.up hy40 (by omega) (by omega) hdd) (fun x hx9 => by rw [gup_ne (by omega)]; exact hf2 x hx9) hk2)
                        · refine gX_iload dX12_least_167 rfl ?_
                          refine gX_goto (tgt := 174) dX12_least_169 (by decide) ?_
                          refine gX_istore dX12_least_174 (show (7 : Nat) < 10 from by decide) (ls2 := [some (ga 775), some (gi a), some (gi b), some (gi (xs.length : Int)), some (gi (ys.length : Int)), some (gi i), some (gi j), some (gi ((dd xs ys i (j + 1)) + 1)), some (gi ((dd xs ys (i + 1) j) + 1)), some (gi ((dd xs ys i (j + 1)) + 1))]) rfl ?_
                          refine gX_aloadn dX12_least_176 rfl ?_
                          refine gX_gR 57 dX12_least_177 fdX12_126 rfl rfl hM.1 (mR57 hM) ?_
                          refine gX_bipush dX12_least_180 (by decide) ⟨by decide, by decide⟩ ?_
                          refine gX_iload dX12_least_182 rfl ?_
                          refine gX_imul dX12_least_184 ⟨by omega, by omega⟩ ?_
                          refine gX_iload dX12_least_185 rfl ?_
                          refine gX_iadd dX12_least_187 ⟨by omega, by omega⟩ ?_
                          refine gX_iload dX12_least_188 rfl ?_
                          refine gX_iast dX12_least_190 (mA57 hM) (by omega) (by omega) ?_
                          refine gX_iinc dX12_least_191 rfl (show (6 : Nat) < 10 from by decide) ⟨by omega, by omega⟩ (ls2 := [some (ga 775), some (gi a), some (gi b), some (gi (xs.length : Int)), some (gi (ys.length : Int)), some (gi i), some (gi (j + (-1))), some (gi ((dd xs ys i (j + 1)) + 1)), some (gi ((dd xs ys (i + 1) j) + 1)), some (gi ((dd xs ys i (j + 1)) + 1))]) rfl ?_
                          refine gX_goto (tgt := 27) dX12_least_194 (by decide) ?_
                          first
                          | (exfalso; omega)
                          | (have hdd : (dd xs ys i (j + 1)) + 1 = dd xs ys i j := by omega
                             refine ih (j + (-1)) _ _ _ _ _ _ (by omega) (by omega) (by omega) (by rw [show j + (-1) + 1 = j by omega]; exact hc2.up hy40 (by omega) (by omega) hdd) (fun x hx9 => by rw [gup_ne (by omega)]; exact hf2 x hx9) hk2)
                      · refine gX_iload dX12_least_151 rfl ?_
                        refine gX_goto (tgt := 158) dX12_least_153 (by decide) ?_
                        refine gX_istore dX12_least_158 (show (7 : Nat) < 10 from by decide) (ls2 := [some (ga 775), some (gi a), some (gi b), some (gi (xs.length : Int)), some (gi (ys.length : Int)), some (gi i), some (gi j), some (gi ((dd xs ys (i + 1) j) + 1)), some (gi ((dd xs ys (i + 1) j) + 1)), some (gi ((dd xs ys i (j + 1)) + 1))]) rfl ?_
                        refine gX_iload dX12_least_160 rfl ?_
                        refine gX_iload dX12_least_162 rfl ?_
                        refine gX_icmpge (tgt := 172) dX12_least_164 (by decide) (fun w8 => ?_) (fun w8 => ?_)
                        · refine gX_iload dX12_least_172 rfl ?_
                          refine gX_istore dX12_least_174 (show (7 : Nat) < 10 from by decide) (ls2 := [some (ga 775), some (gi a), some (gi b), some (gi (xs.length : Int)), some (gi (ys.length : Int)), some (gi i), some (gi j), some (gi ((dd xs ys (i + 1) j) + 1)), some (gi ((dd xs ys (i + 1) j) + 1)), some (gi ((dd xs ys i (j + 1)) + 1))]) rfl ?_
                          refine gX_aloadn dX12_least_176 rfl ?_
                          refine gX_gR 57 dX12_least_177 fdX12_126 rfl rfl hM.1 (mR57 hM) ?_
                          refine gX_bipush dX12_least_180 (by decide) ⟨by decide, by decide⟩ ?_
                          refine gX_iload dX12_least_182 rfl ?_
                          refine gX_imul dX12_least_184 ⟨by omega, by omega⟩ ?_
                          refine gX_iload dX12_least_185 rfl ?_
                          refine gX_iadd dX12_least_187 ⟨by omega, by omega⟩ ?_
                          refine gX_iload dX12_least_188 rfl ?_
                          refine gX_iast dX12_least_190 (mA57 hM) (by omega) (by omega) ?_
                          refine gX_iinc dX12_least_191 rfl (show (6 : Nat) < 10 from by decide) ⟨by omega, by omega⟩ (ls2 := [some (ga 775), some (gi a), some (gi b), some (gi (xs.length : Int)), some (gi (ys.length : Int)), some (gi i), some (gi (j + (-1))), some (gi ((dd xs ys (i + 1) j) + 1)), some (gi ((dd xs ys (i + 1) j) + 1)), some (gi ((dd xs ys i (j + 1)) + 1))]) rfl ?_
                          refine gX_goto (tgt := 27) dX12_least_194 (by decide) ?_
                          first
                          | (exfalso; omega)
                          | (have hdd : (dd xs ys (i + 1) j) + 1 = dd xs ys i j := by omega
                             refine ih (j + (-1)) _ _ _ _ _ _ (by omega) (by omega) (by omega) (by rw [show j + (-1) + 1 = j by omega]; exact hc2.up hy40 (by omega) (by omega) hdd) (fun x hx9 => by rw [gup_ne (by omega)]; exact hf2 x hx9) hk2)
                        · refine gX_iload dX12_least_167 rfl ?_
                          refine gX_goto (tgt := 174) dX12_least_169 (by decide) ?_
                          refine gX_istore dX12_least_174 (show (7 : Nat) < 10 from by decide) (ls2 := [some (ga 775), some (gi a), some (gi b), some (gi (xs.length : Int)), some (gi (ys.length : Int)), some (gi i), some (gi j), some (gi ((dd xs ys i (j + 1)) + 1)), some (gi ((dd xs ys (i + 1) j) + 1)), some (gi ((dd xs ys i (j + 1)) + 1))]) rfl ?_
                          refine gX_aloadn dX12_least_176 rfl ?_
                          refine gX_gR 57 dX12_least_177 fdX12_126 rfl rfl hM.1 (mR57 hM) ?_
                          refine gX_bipush dX12_least_180 (by decide) ⟨by decide, by decide⟩ ?_
                          refine gX_iload dX12_least_182 rfl ?_
                          refine gX_imul dX12_least_184 ⟨by omega, by omega⟩ ?_
                          refine gX_iload dX12_least_185 rfl ?_
                          refine gX_iadd dX12_least_187 ⟨by omega, by omega⟩ ?_
                          refine gX_iload dX12_least_188 rfl ?_
                          refine gX_iast dX12_least_190 (mA57 hM) (by omega) (by omega) ?_
                          refine gX_iinc dX12_least_191 rfl (show (6 : Nat) < 10 from by decide) ⟨by omega, by omega⟩ (ls2 := [some (ga 775), some (gi a), some (gi b), some (gi (xs.length : Int)), some (gi (ys.length : Int)), some (gi i), some (gi (j + (-1))), some (gi ((dd xs ys i (j + 1)) + 1)), some (gi ((dd xs ys (i + 1) j) + 1)), some (gi ((dd xs ys i (j + 1)) + 1))]) rfl ?_
                          refine gX_goto (tgt := 27) dX12_least_194 (by decide) ?_
                          first
                          | (exfalso; omega)
                          | (have hdd : (dd xs ys i (j + 1)) + 1 = dd xs ys i j := by omega
                             refine ih (j + (-1)) _ _ _ _ _ _ (by omega) (by omega) (by omega) (by rw [show j + (-1) + 1 = j by omega]; exact hc2.up hy40 (by omega) (by omega) hdd) (fun x hx9 => by rw [gup_ne (by omega)]; exact hf2 x hx9) hk2)
                · refine gX_iloadn dX12_least_53 rfl ?_
                  refine gX_iload dX12_least_54 rfl ?_
                  refine gX_isub dX12_least_56 ⟨by omega, by omega⟩ ?_
                  refine gX_goto (tgt := 61) dX12_least_57 (by decide) ?_
                  refine gX_istore dX12_least_61 (show (7 : Nat) < 10 from by decide) (ls2 := [some (ga 775), some (gi a), some (gi b), some (gi (xs.length : Int)), some (gi (ys.length : Int)), some (gi i), some (gi j), some (gi ((xs.length : Int) - i)), j8, j9]) rfl ?_
                  refine gX_iload dX12_least_63 rfl ?_
                  refine gX_iloadn dX12_least_65 rfl ?_
                  refine gX_icmpge (tgt := 176) dX12_least_66 (by decide) (fun w9 => ?_) (fun w9 => ?_)
                  · refine gX_aloadn dX12_least_176 rfl ?_
                    refine gX_gR 57 dX12_least_177 fdX12_126 rfl rfl hM.1 (mR57 hM) ?_
                    refine gX_bipush dX12_least_180 (by decide) ⟨by decide, by decide⟩ ?_
                    refine gX_iload dX12_least_182 rfl ?_
                    refine gX_imul dX12_least_184 ⟨by omega, by omega⟩ ?_
                    refine gX_iload dX12_least_185 rfl ?_
                    refine gX_iadd dX12_least_187 ⟨by omega, by omega⟩ ?_
                    refine gX_iload dX12_least_188 rfl ?_
                    refine gX_iast dX12_least_190 (mA57 hM) (by omega) (by omega) ?_
                    refine gX_iinc dX12_least_191 rfl (show (6 : Nat) < 10 from by decide) ⟨by omega, by omega⟩ (ls2 := [some (ga 775), some (gi a), some (gi b), some (gi (xs.length : Int)), some (gi (ys.length : Int)), some (gi i), some (gi (j + (-1))), some (gi ((xs.length : Int) - i)), j8, j9]) rfl ?_
                    refine gX_goto (tgt := 27) dX12_least_194 (by decide) ?_
                    first
                    | (exfalso; omega)
                    | (have hdd : (xs.length : Int) - i = dd xs ys i j := by exact (dd_right (by omega) (by omega) (by omega)).symm
                       refine ih (j + (-1)) _ _ _ _ _ _ (by omega) (by omega) (by omega) (by rw [show j + (-1) + 1 = j by omega]; exact hc2.up hy40 (by omega) (by omega) hdd) (fun x hx9 => by rw [gup_ne (by omega)]; exact hf2 x hx9) hk2)
                  · refine gX_iload dX12_least_69 rfl ?_
                    refine gX_iload dX12_least_71 rfl ?_
                    refine gX_icmpge (tgt := 176) dX12_least_73 (by decide) (fun w10 => ?_) (fun w10 => ?_)
                    · refine gX_aloadn dX12_least_176 rfl ?_
                      refine gX_gR 57 dX12_least_177 fdX12_126 rfl rfl hM.1 (mR57 hM) ?_
                      refine gX_bipush dX12_least_180 (by decide) ⟨by decide, by decide⟩ ?_
                      refine gX_iload dX12_least_182 rfl ?_
                      refine gX_imul dX12_least_184 ⟨by omega, by omega⟩ ?_
                      refine gX_iload dX12_least_185 rfl ?_
                      refine gX_iadd dX12_least_187 ⟨by omega, by omega⟩ ?_
                      refine gX_iload dX12_least_188 rfl ?_
                      refine gX_iast dX12_least_190 (mA57 hM) (by omega) (by omega) ?_
                      refine gX_iinc dX12_least_191 rfl (show (6 : Nat) < 10 from by decide) ⟨by omega, by omega⟩ (ls2 := [some (ga 775), some (gi a), some (gi b), some (gi (xs.length : Int)), some (gi (ys.length : Int)), some (gi i), some (gi (j + (-1))), some (gi ((xs.length : Int) - i)), j8, j9]) rfl ?_
                      refine gX_goto (tgt := 27) dX12_least_194 (by decide) ?_
                      first
                      | (exfalso; omega)
                      | (have hdd : (xs.length : Int) - i = dd xs ys i j := by exact (dd_right (by omega) (by omega) (by omega)).symm
                         refine ih (j + (-1)) _ _ _ _ _ _ (by omega) (by omega) (by omega) (by rw [show j + (-1) + 1 = j by omega]; exact hc2.up hy40 (by omega) (by omega) hdd) (fun x hx9 => by rw [gup_ne (by omega)]; exact hf2 x hx9) hk2)
                    · have c1 : V2 813 (41 * (i + 1) + j + 1) = dd xs ys (i + 1) (j + 1) := hc2.at (by omega) (by omega) (by omega) (by omega) (by omega) (by omega)
                      have c2 : V2 813 (41 * (i + 1) + j) = dd xs ys (i + 1) j := hc2.at (by omega) (by omega) (by omega) (by omega) (by omega) (by omega)
                      have c3 : V2 813 (41 * i + j + 1) = dd xs ys i (j + 1) := hc2.at (by omega) (by omega) (by omega) (by omega) (by omega) (by omega)
                      have b1 := dd_bd hx40 hy40 (i + 1) (j + 1)
                      have b2 := dd_bd hx40 hy40 (i + 1) j
                      have b3 := dd_bd hx40 hy40 i (j + 1)
                      have b4 := pcM_bd xs ys i j
                      have hst := dd_step (xs := xs) (ys := ys) (i := i) (j := j) (by omega) (by omega) (by omega) (by omega)
                      refine gX_aloadn dX12_least_76 rfl ?_
                      refine gX_gR 57 dX12_least_77 fdX12_126 rfl rfl hM.1 (mR57 hM) ?_
                      refine gX_bipush dX12_least_80 (by decide) ⟨by decide, by decide⟩ ?_
                      refine gX_iload dX12_least_82 rfl ?_
                      refine gX_iconst dX12_least_84 ⟨by decide, by decide⟩ ?_
                      refine gX_iadd dX12_least_85 ⟨by omega, by omega⟩ ?_
                      refine gX_imul dX12_least_86 ⟨by omega, by omega⟩ ?_
                      refine gX_iload dX12_least_87 rfl ?_
                      refine gX_iadd dX12_least_89 ⟨by omega, by omega⟩ ?_
                      refine gX_iconst dX12_least_90 ⟨by decide, by decide⟩ ?_
                      refine gX_iadd dX12_least_91 ⟨by omega, by omega⟩ ?_
                      refine gX_iald dX12_least_92 (mA57 hM) (by omega) (by omega) ?_
                      rw [c1]
                      refine gX_aloadn dX12_least_93 rfl ?_
                      refine gX_iloadn dX12_least_94 rfl ?_
                      refine gX_iload dX12_least_95 rfl ?_
                      refine gX_iloadn dX12_least_97 rfl ?_
                      refine gX_iload dX12_least_98 rfl ?_
                      refine gX_virt (J := iX12_pairCost) (av := [gi a, gi i, gi b, gi j]) (a := 775) (st := [gi (dd xs ys (i + 1) (j + 1))]) dX12_least_100 lkX12_415 kX12_pairCost vX12_pairCost (gFit_m (by decide)) hM.1 rfl rfl (Nat.le_of_ble_eq_true rfl) (Nat.zero_le _) (Nat.zero_le _) rfl ?_
                      refine m_pairCost hM ha hb (hx.kept (hf2 776 (by omega)) (hf2 777 (by omega))) (hy.kept (hf2 776 (by omega)) (hf2 777 (by omega))) ⟨by omega, by omega⟩ ⟨by omega, by omega⟩ ?_
                      show gX l E _ 103 [some (ga 775), some (gi a), some (gi b), some (gi (xs.length : Int)), some (gi (ys.length : Int)), some (gi i), some (gi j), some (gi ((xs.length : Int) - i)), j8, j9] [gi (pcM xs ys i j), gi (dd xs ys (i + 1) (j + 1))] (K, R, V2) _ _
                      refine gX_iadd dX12_least_103 ⟨by omega, by omega⟩ ?_
                      refine gX_istore dX12_least_104 (show (7 : Nat) < 10 from by decide) (ls2 := [some (ga 775), some (gi a), some (gi b), some (gi (xs.length : Int)), some (gi (ys.length : Int)), some (gi i), some (gi j), some (gi ((dd xs ys (i + 1) (j + 1)) + (pcM xs ys i j))), j8, j9]) rfl ?_
                      refine gX_aloadn dX12_least_106 rfl ?_
                      refine gX_gR 57 dX12_least_107 fdX12_126 rfl rfl hM.1 (mR57 hM) ?_
                      refine gX_bipush dX12_least_110 (by decide) ⟨by decide, by decide⟩ ?_
                      refine gX_iload dX12_least_112 rfl ?_
                      refine gX_iconst dX12_least_114 ⟨by decide, by decide⟩ ?_
                      refine gX_iadd dX12_least_115 ⟨by omega, by omega⟩ ?_
                      refine gX_imul dX12_least_116 ⟨by omega, by omega⟩ ?_
                      refine gX_iload dX12_least_117 rfl ?_
                      refine gX_iadd dX12_least_119 ⟨by omega, by omega⟩ ?_
                      refine gX_iald dX12_least_120 (mA57 hM) (by omega) (by omega) ?_
                      rw [c2]
                      refine gX_iconst dX12_least_121 ⟨by decide, by decide⟩ ?_
                      refine gX_iadd dX12_least_122 ⟨by omega, by omega⟩ ?_
                      refine gX_istore dX12_least_123 (show (8 : Nat) < 10 from by decide) (ls2 := [some (ga 775), some (gi a), some (gi b), some (gi (xs.length : Int)), some (gi (ys.length : Int)), some (gi i), some (gi j), some (gi ((dd xs ys (i + 1) (j + 1)) + (pcM xs ys i j))), some (gi ((dd xs ys (i + 1) j) + 1)), j9]) rfl ?_
                      refine gX_aloadn dX12_least_125 rfl ?_
                      refine gX_gR 57 dX12_least_126 fdX12_126 rfl rfl hM.1 (mR57 hM) ?_
                      refine gX_bipush dX12_least_129 (by decide) ⟨by decide, by decide⟩ ?_
                      refine gX_iload dX12_least_131 rfl ?_
                      refine gX_imul dX12_least_133 ⟨by omega, by omega⟩ ?_
                      refine gX_iload dX12_least_134 rfl ?_
                      refine gX_iadd dX12_least_136 ⟨by omega, by omega⟩ ?_
                      refine gX_iconst dX12_least_137 ⟨by decide, by decide⟩ ?_
                      refine gX_iadd dX12_least_138 ⟨by omega, by omega⟩ ?_
                      refine gX_iald dX12_least_139 (mA57 hM) (by omega) (by omega) ?_
                      rw [c3]
                      refine gX_iconst dX12_least_140 ⟨by decide, by decide⟩ ?_
                      refine gX_iadd dX12_least_141 ⟨by omega, by omega⟩ ?_
                      refine gX_istore dX12_least_142 (show (9 : Nat) < 10 from by decide) (ls2 := [some (ga 775), some (gi a), some (gi b), some (gi (xs.length : Int)), some (gi (ys.length : Int)), some (gi i), some (gi j), some (gi ((dd xs ys (i + 1) (j + 1)) + (pcM xs ys i j))), some (gi ((dd xs ys (i + 1) j) + 1)), some (gi ((dd xs ys i (j + 1)) + 1))]) rfl ?_
                      refine gX_iload dX12_least_144 rfl ?_
                      refine gX_iload dX12_least_146 rfl ?_
                      refine gX_icmpge (tgt := 156) dX12_least_148 (by decide) (fun w11 => ?_) (fun w11 => ?_)
                      · refine gX_iload dX12_least_156 rfl ?_
                        refine gX_istore dX12_least_158 (show (7 : Nat) < 10 from by decide) (ls2 := [some (ga 775), some (gi a), some (gi b), some (gi (xs.length : Int)), some (gi (ys.length : Int)), some (gi i), some (gi j), some (gi ((dd xs ys (i + 1) (j + 1)) + (pcM xs ys i j))), some (gi ((dd xs ys (i + 1) j) + 1)), some (gi ((dd xs ys i (j + 1)) + 1))]) rfl ?_
                        refine gX_iload dX12_least_160 rfl ?_
                        refine gX_iload dX12_least_162 rfl ?_
                        refine gX_icmpge (tgt := 172) dX12_least_164 (by decide) (fun w12 => ?_) (fun w12 => ?_)
                        · refine gX_iload dX12_least_172 rfl ?_
                          refine gX_istore dX12_least_174 (show (7 : Nat) < 10 from by decide) (ls2 := [some (ga 775), some (gi a), some (gi b), some (gi (xs.length : Int)), some (gi (ys.length : Int)), some (gi i), some (gi j), some (gi ((dd xs ys (i + 1) (j + 1)) + (pcM xs ys i j))), some (gi ((dd xs ys (i + 1) j) + 1)), some (gi ((dd xs ys i (j + 1)) + 1))]) rfl ?_
                          refine gX_aloadn dX12_least_176 rfl ?_
                          refine gX_gR 57 dX12_least_177 fdX12_126 rfl rfl hM.1 (mR57 hM) ?_
                          refine gX_bipush dX12_least_180 (by decide) ⟨by decide, by decide⟩ ?_
                          refine gX_iload dX12_least_182 rfl ?_
                          refine gX_imul dX12_least_184 ⟨by omega, by omega⟩ ?_
                          refine gX_iload dX12_least_185 rfl ?_
                          refine gX_iadd dX12_least_187 ⟨by omega, by omega⟩ ?_
                          refine gX_iload dX12_least_188 rfl ?_
                          refine gX_iast dX12_least_190 (mA57 hM) (by omega) (by omega) ?_
                          refine gX_iinc dX12_least_191 rfl (show (6 : Nat) < 10 from by decide) ⟨by omega, by omega⟩ (ls2 := [some (ga 775), some (gi a), some (gi b), some (gi (xs.length : Int)), some (gi (ys.length : Int)), some (gi i), some (gi (j + (-1))), some (gi ((dd xs ys (i + 1) (j + 1)) + (pcM xs ys i j))), some (gi ((dd xs ys (i + 1) j) + 1)), some (gi ((dd xs ys i (j + 1)) + 1))]) rfl ?_
                          refine gX_goto (tgt := 27) dX12_least_194 (by decide) ?_
                          first
                          | (exfalso; omega)
                          | (have hdd : (dd xs ys (i + 1) (j + 1)) + (pcM xs ys i j) = dd xs ys i j := by omega
                             refine ih (j + (-1)) _ _ _ _ _ _ (by omega) (by omega) (by omega) (by rw [show j + (-1) + 1 = j by omega]; exact hc2.up hy40 (by omega) (by omega) hdd) (fun x hx9 => by rw [gup_ne (by omega)]; exact hf2 x hx9) hk2)
                        · refine gX_iload dX12_least_167 rfl ?_
                          refine gX_goto (tgt := 174) dX12_least_169 (by decide) ?_
                          refine gX_istore dX12_least_174 (show (7 : Nat) < 10 from by decide) (ls2 := [some (ga 775), some (gi a), some (gi b), some (gi (xs.length : Int)), some (gi (ys.length : Int)), some (gi i), some (gi j), some (gi ((dd xs ys i (j + 1)) + 1)), some (gi ((dd xs ys (i + 1) j) + 1)), some (gi ((dd xs ys i (j + 1)) + 1))]) rfl ?_
                          refine gX_aloadn dX12_least_176 rfl ?_
                          refine gX_gR 57 dX12_least_177 fdX12_126 rfl rfl hM.1 (mR57 hM) ?_
                          refine gX_bipush dX12_least_180 (by decide) ⟨by decide, by decide⟩ ?_
                          refine gX_iload dX12_least_182 rfl ?_
                          refine gX_imul dX12_least_184 ⟨by omega, by omega⟩ ?_
                          refine gX_iload dX12_least_185 rfl ?_
                          refine gX_iadd dX12_least_187 ⟨by omega, by omega⟩ ?_
                          refine gX_iload dX12_least_188 rfl ?_
                          refine gX_iast dX12_least_190 (mA57 hM) (by omega) (by omega) ?_
                          refine gX_iinc dX12_least_191 rfl (show (6 : Nat) < 10 from by decide) ⟨by omega, by omega⟩ (ls2 := [some (ga 775), some (gi a), some (gi b), some (gi (xs.length : Int)), some (gi (ys.length : Int)), some (gi i), some (gi (j + (-1))), some (gi ((dd xs ys i (j + 1)) + 1)), some (gi ((dd xs ys (i + 1) j) + 1)), some (gi ((dd xs ys i (j + 1)) + 1))]) rfl ?_
                          refine gX_goto (tgt := 27) dX12_least_194 (by decide) ?_
                          first
                          | (exfalso; omega)
                          | (have hdd : (dd xs ys i (j + 1)) + 1 = dd xs ys i j := by omega
                             refine ih (j + (-1)) _ _ _ _ _ _ (by omega) (by omega) (by omega) (by rw [show j + (-1) + 1 = j by omega]; exact hc2.up hy40 (by omega) (by omega) hdd) (fun x hx9 => by rw [gup_ne (by omega)]; exact hf2 x hx9) hk2)
                      · refine gX_iload dX12_least_151 rfl ?_
                        refine gX_goto (tgt := 158) dX12_least_153 (by decide) ?_
                        refine gX_istore dX12_least_158 (show (7 : Nat) < 10 from by decide) (ls2 := [some (ga 775), some (gi a), some (gi b), some (gi (xs.length : Int)), some (gi (ys.length : Int)), some (gi i), some (gi j), some (gi ((dd xs ys (i + 1) j) + 1)), some (gi ((dd xs ys (i + 1) j) + 1)), some (gi ((dd xs ys i (j + 1)) + 1))]) rfl ?_
                        refine gX_iload dX12_least_160 rfl ?_
                        refine gX_iload dX12_least_162 rfl ?_
                        refine gX_icmpge (tgt := 172) dX12_least_164 (by decide) (fun w13 => ?_) (fun w13 => ?_)
                        · refine gX_iload dX12_least_172 rfl ?_
                          refine gX_istore dX12_least_174 (show (7 : Nat) < 10 from by decide) (ls2 := [some (ga 775), some (gi a), some (gi b), some (gi (xs.length : Int)), some (gi (ys.length : Int)), some (gi i), some (gi j), some (gi ((dd xs ys (i + 1) j) + 1)), some (gi ((dd xs ys (i + 1) j) + 1)), some (gi ((dd xs ys i (j + 1)) + 1))]) rfl ?_
                          refine gX_aloadn dX12_least_176 rfl ?_
                          refine gX_gR 57 dX12_least_177 fdX12_126 rfl rfl hM.1 (mR57 hM) ?_
                          refine gX_bipush dX12_least_180 (by decide) ⟨by decide, by decide⟩ ?_
                          refine gX_iload dX12_least_182 rfl ?_
                          refine gX_imul dX12_least_184 ⟨by omega, by omega⟩ ?_
                          refine gX_iload dX12_least_185 rfl ?_
                          refine gX_iadd dX12_least_187 ⟨by omega, by omega⟩ ?_
                          refine gX_iload dX12_least_188 rfl ?_
                          refine gX_iast dX12_least_190 (mA57 hM) (by omega) (by omega) ?_
                          refine gX_iinc dX12_least_191 rfl (show (6 : Nat) < 10 from by decide) ⟨by omega, by omega⟩ (ls2 := [some (ga 775), some (gi a), some (gi b), some (gi (xs.length : Int)), some (gi (ys.length : Int)), some (gi i), some (gi (j + (-1))), some (gi ((dd xs ys (i + 1) j) + 1)), some (gi ((dd xs ys (i + 1) j) + 1)), some (gi ((dd xs ys i (j + 1)) + 1))]) rfl ?_
                          refine gX_goto (tgt := 27) dX12_least_194 (by decide) ?_
                          first
                          | (exfalso; omega)
                          | (have hdd : (dd xs ys (i + 1) j) + 1 = dd xs ys i j := by omega
                             refine ih (j + (-1)) _ _ _ _ _ _ (by omega) (by omega) (by omega) (by rw [show j + (-1) + 1 = j by omega]; exact hc2.up hy40 (by omega) (by omega) hdd) (fun x hx9 => by rw [gup_ne (by omega)]; exact hf2 x hx9) hk2)
                        · refine gX_iload dX12_least_167 rfl ?_
                          refine gX_goto (tgt := 174) dX12_least_169 (by decide) ?_
                          refine gX_istore dX12_least_174 (show (7 : Nat) < 10 from by decide) (ls2 := [some (ga 775), some (gi a), some (gi b), some (gi (xs.length : Int)), some (gi (ys.length : Int)), some (gi i), some (gi j), some (gi ((dd xs ys i (j + 1)) + 1)), some (gi ((dd xs ys (i + 1) j) + 1)), some (gi ((dd xs ys i (j + 1)) + 1))]) rfl ?_
                          refine gX_aloadn dX12_least_176 rfl ?_
                          refine gX_gR 57 dX12_least_177 fdX12_126 rfl rfl hM.1 (mR57 hM) ?_
                          refine gX_bipush dX12_least_180 (by decide) ⟨by decide, by decide⟩ ?_
                          refine gX_iload dX12_least_182 rfl ?_
                          refine gX_imul dX12_least_184 ⟨by omega, by omega⟩ ?_
                          refine gX_iload dX12_least_185 rfl ?_
                          refine gX_iadd dX12_least_187 ⟨by omega, by omega⟩ ?_
                          refine gX_iload dX12_least_188 rfl ?_
                          refine gX_iast dX12_least_190 (mA57 hM) (by omega) (by omega) ?_
                          refine gX_iinc dX12_least_191 rfl (show (6 : Nat) < 10 from by decide) ⟨by omega, by omega⟩ (ls2 := [some (ga 775), some (gi a), some (gi b), some (gi (xs.length : Int)), some (gi (ys.length : Int)), some (gi i), some (gi (j + (-1))), some (gi ((dd xs ys i (j + 1)) + 1)), some (gi ((dd xs ys (i + 1) j) + 1)), some (gi ((dd xs ys i (j + 1)) + 1))]) rfl ?_
                          refine gX_goto (tgt := 27) dX12_least_194 (by decide) ?_
                          first
                          | (exfalso; omega)
                          | (have hdd : (dd xs ys i (j + 1)) + 1 = dd xs ys i j := by omega
                             refine ih (j + (-1)) _ _ _ _ _ _ (by omega) (by omega) (by omega) (by rw [show j + (-1) + 1 = j by omega]; exact hc2.up hy40 (by omega) (by omega) hdd) (fun x hx9 => by rw [gup_ne (by omega)]; exact hf2 x hx9) hk2)
              · refine gX_iload dX12_least_38 rfl ?_
                refine gX_iload dX12_least_40 rfl ?_
                refine gX_isub dX12_least_42 ⟨by omega, by omega⟩ ?_
                refine gX_goto (tgt := 61) dX12_least_43 (by decide) ?_
                refine gX_istore dX12_least_61 (show (7 : Nat) < 10 from by decide) (ls2 := [some (ga 775), some (gi a), some (gi b), some (gi (xs.length : Int)), some (gi (ys.length : Int)), some (gi i), some (gi j), some (gi ((ys.length : Int) - j)), j8, j9]) rfl ?_
                refine gX_iload dX12_least_63 rfl ?_
                refine gX_iloadn dX12_least_65 rfl ?_
                refine gX_icmpge (tgt := 176) dX12_least_66 (by decide) (fun w14 => ?_) (fun w14 => ?_)
                · refine gX_aloadn dX12_least_176 rfl ?_
                  refine gX_gR 57 dX12_least_177 fdX12_126 rfl rfl hM.1 (mR57 hM) ?_
                  refine gX_bipush dX12_least_180 (by decide) ⟨by decide, by decide⟩ ?_
                  refine gX_iload dX12_least_182 rfl ?_
                  refine gX_imul dX12_least_184 ⟨by omega, by omega⟩ ?_
                  refine gX_iload dX12_least_185 rfl ?_
                  refine gX_iadd dX12_least_187 ⟨by omega, by omega⟩ ?_
                  refine gX_iload dX12_least_188 rfl ?_
                  refine gX_iast dX12_least_190 (mA57 hM) (by omega) (by omega) ?_
                  refine gX_iinc dX12_least_191 rfl (show (6 : Nat) < 10 from by decide) ⟨by omega, by omega⟩ (ls2 := [some (ga 775), some (gi a), some (gi b), some (gi (xs.length : Int)), some (gi (ys.length : Int)), some (gi i), some (gi (j + (-1))), some (gi ((ys.length : Int) - j)), j8, j9]) rfl ?_
                  refine gX_goto (tgt := 27) dX12_least_194 (by decide) ?_
                  first
                  | (exfalso; omega)
                  | (have hdd : (ys.length : Int) - j = dd xs ys i j := by exact (dd_top (by omega) (by omega) (by omega)).symm
                     refine ih (j + (-1)) _ _ _ _ _ _ (by omega) (by omega) (by omega) (by rw [show j + (-1) + 1 = j by omega]; exact hc2.up hy40 (by omega) (by omega) hdd) (fun x hx9 => by rw [gup_ne (by omega)]; exact hf2 x hx9) hk2)
                · refine gX_iload dX12_least_69 rfl ?_
                  refine gX_iload dX12_least_71 rfl ?_
                  refine gX_icmpge (tgt := 176) dX12_least_73 (by decide) (fun w15 => ?_) (fun w15 => ?_)
                  · refine gX_aloadn dX12_least_176 rfl ?_
                    refine gX_gR 57 dX12_least_177 fdX12_126 rfl rfl hM.1 (mR57 hM) ?_
                    refine gX_bipush dX12_least_180 (by decide) ⟨by decide, by decide⟩ ?_
                    refine gX_iload dX12_least_182 rfl ?_
                    refine gX_imul dX12_least_184 ⟨by omega, by omega⟩ ?_
                    refine gX_iload dX12_least_185 rfl ?_
                    refine gX_iadd dX12_least_187 ⟨by omega, by omega⟩ ?_
                    refine gX_iload dX12_least_188 rfl ?_
                    refine gX_iast dX12_least_190 (mA57 hM) (by omega) (by omega) ?_
                    refine gX_iinc dX12_least_191 rfl (show (6 : Nat) < 10 from by decide) ⟨by omega, by omega⟩ (ls2 := [some (ga 775), some (gi a), some (gi b), some (gi (xs.length : Int)), some (gi (ys.length : Int)), some (gi i), some (gi (j + (-1))), some (gi ((ys.length : Int) - j)), j8, j9]) rfl ?_
                    refine gX_goto (tgt := 27) dX12_least_194 (by decide) ?_
                    first
                    | (exfalso; omega)
                    | (have hdd : (ys.length : Int) - j = dd xs ys i j := by exact (dd_top (by omega) (by omega) (by omega)).symm
                       refine ih (j + (-1)) _ _ _ _ _ _ (by omega) (by omega) (by omega) (by rw [show j + (-1) + 1 = j by omega]; exact hc2.up hy40 (by omega) (by omega) hdd) (fun x hx9 => by rw [gup_ne (by omega)]; exact hf2 x hx9) hk2)
                  · have c1 : V2 813 (41 * (i + 1) + j + 1) = dd xs ys (i + 1) (j + 1) := hc2.at (by omega) (by omega) (by omega) (by omega) (by omega) (by omega)
                    have c2 : V2 813 (41 * (i + 1) + j) = dd xs ys (i + 1) j := hc2.at (by omega) (by omega) (by omega) (by omega) (by omega) (by omega)
                    have c3 : V2 813 (41 * i + j + 1) = dd xs ys i (j + 1) := hc2.at (by omega) (by omega) (by omega) (by omega) (by omega) (by omega)
                    have b1 := dd_bd hx40 hy40 (i + 1) (j + 1)
                    have b2 := dd_bd hx40 hy40 (i + 1) j
                    have b3 := dd_bd hx40 hy40 i (j + 1)
                    have b4 := pcM_bd xs ys i j
                    have hst := dd_step (xs := xs) (ys := ys) (i := i) (j := j) (by omega) (by omega) (by omega) (by omega)
                    refine gX_aloadn dX12_least_76 rfl ?_
                    refine gX_gR 57 dX12_least_77 fdX12_126 rfl rfl hM.1 (mR57 hM) ?_
                    refine gX_bipush dX12_least_80 (by decide) ⟨by decide, by decide⟩ ?_
                    refine gX_iload dX12_least_82 rfl ?_
                    refine gX_iconst dX12_least_84 ⟨by decide, by decide⟩ ?_
                    refine gX_iadd dX12_least_85 ⟨by omega, by omega⟩ ?_
                    refine gX_imul dX12_least_86 ⟨by omega, by omega⟩ ?_
                    refine gX_iload dX12_least_87 rfl ?_
                    refine gX_iadd dX12_least_89 ⟨by omega, by omega⟩ ?_
                    refine gX_iconst dX12_least_90 ⟨by decide, by decide⟩ ?_
                    refine gX_iadd dX12_least_91 ⟨by omega, by omega⟩ ?_
                    refine gX_iald dX12_least_92 (mA57 hM) (by omega) (by omega) ?_
                    rw [c1]
                    refine gX_aloadn dX12_least_93 rfl ?_
                    refine gX_iloadn dX12_least_94 rfl ?_
                    refine gX_iload dX12_least_95 rfl ?_
                    refine gX_iloadn dX12_least_97 rfl ?_
                    refine gX_iload dX12_least_98 rfl ?_
                    refine gX_virt (J := iX12_pairCost) (av := [gi a, gi i, gi b, gi j]) (a := 775) (st := [gi (dd xs ys (i + 1) (j + 1))]) dX12_least_100 lkX12_415 kX12_pairCost vX12_pairCost (gFit_m (by decide)) hM.1 rfl rfl (Nat.le_of_ble_eq_true rfl) (Nat.zero_le _) (Nat.zero_le _) rfl ?_
                    refine m_pairCost hM ha hb (hx.kept (hf2 776 (by omega)) (hf2 777 (by omega))) (hy.kept (hf2 776 (by omega)) (hf2 777 (by omega))) ⟨by omega, by omega⟩ ⟨by omega, by omega⟩ ?_
                    show gX l E _ 103 [some (ga 775), some (gi a), some (gi b), some (gi (xs.length : Int)), some (gi (ys.length : Int)), some (gi i), some (gi j), some (gi ((ys.length : Int) - j)), j8, j9] [gi (pcM xs ys i j), gi (dd xs ys (i + 1) (j + 1))] (K, R, V2) _ _
                    refine gX_iadd dX12_least_103 ⟨by omega, by omega⟩ ?_
                    refine gX_istore dX12_least_104 (show (7 : Nat) < 10 from by decide) (ls2 := [some (ga 775), some (gi a), some (gi b), some (gi (xs.length : Int)), some (gi (ys.length : Int)), some (gi i), some (gi j), some (gi ((dd xs ys (i + 1) (j + 1)) + (pcM xs ys i j))), j8, j9]) rfl ?_
                    refine gX_aloadn dX12_least_106 rfl ?_
                    refine gX_gR 57 dX12_least_107 fdX12_126 rfl rfl hM.1 (mR57 hM) ?_
                    refine gX_bipush dX12_least_110 (by decide) ⟨by decide, by decide⟩ ?_
                    refine gX_iload dX12_least_112 rfl ?_
                    refine gX_iconst dX12_least_114 ⟨by decide, by decide⟩ ?_
                    refine gX_iadd dX12_least_115 ⟨by omega, by omega⟩ ?_
                    refine gX_imul dX12_least_116 ⟨by omega, by omega⟩ ?_
                    refine gX_iload dX12_least_117 rfl ?_
                    refine gX_iadd dX12_least_119 ⟨by omega, by omega⟩ ?_
                    refine gX_iald dX12_least_120 (mA57 hM) (by omega) (by omega) ?_
                    rw [c2]
                    refine gX_iconst dX12_least_121 ⟨by decide, by decide⟩ ?_
                    refine gX_iadd dX12_least_122 ⟨by omega, by omega⟩ ?_
                    refine gX_istore dX12_least_123 (show (8 : Nat) < 10 from by decide) (ls2 := [some (ga 775), some (gi a), some (gi b), some (gi (xs.length : Int)), some (gi (ys.length : Int)), some (gi i), some (gi j), some (gi ((dd xs ys (i + 1) (j + 1)) + (pcM xs ys i j))), some (gi ((dd xs ys (i + 1) j) + 1)), j9]) rfl ?_
                    refine gX_aloadn dX12_least_125 rfl ?_
                    refine gX_gR 57 dX12_least_126 fdX12_126 rfl rfl hM.1 (mR57 hM) ?_
                    refine gX_bipush dX12_least_129 (by decide) ⟨by decide, by decide⟩ ?_
                    refine gX_iload dX12_least_131 rfl ?_
                    refine gX_imul dX12_least_133 ⟨by omega, by omega⟩ ?_
                    refine gX_iload dX12_least_134 rfl ?_
                    refine gX_iadd dX12_least_136 ⟨by omega, by omega⟩ ?_
                    refine gX_iconst dX12_least_137 ⟨by decide, by decide⟩ ?_
                    refine gX_iadd dX12_least_138 ⟨by omega, by omega⟩ ?_
                    refine gX_iald dX12_least_139 (mA57 hM) (by omega) (by omega) ?_
                    rw [c3]
                    refine gX_iconst dX12_least_140 ⟨by decide, by decide⟩ ?_
                    refine gX_iadd dX12_least_141 ⟨by omega, by omega⟩ ?_
                    refine gX_istore dX12_least_142 (show (9 : Nat) < 10 from by decide) (ls2 := [some (ga 775), some (gi a), some (gi b), some (gi (xs.length : Int)), some (gi (ys.length : Int)), some (gi i), some (gi j), some (gi ((dd xs ys (i + 1) (j + 1)) + (pcM xs ys i j))), some (gi ((dd xs ys (i + 1) j) + 1)), some (gi ((dd xs ys i (j + 1)) + 1))]) rfl ?_
                    refine gX_iload dX12_least_144 rfl ?_
                    refine gX_iload dX12_least_146 rfl ?_
                    refine gX_icmpge (tgt := 156) dX12_least_148 (by decide) (fun w16 => ?_) (fun w16 => ?_)
                    · refine gX_iload dX12_least_156 rfl ?_
                      refine gX_istore dX12_least_158 (show (7 : Nat) < 10 from by decide) (ls2 := [some (ga 775), some (gi a), some (gi b), some (gi (xs.length : Int)), some (gi (ys.length : Int)), some (gi i), some (gi j), some (gi ((dd xs ys (i + 1) (j + 1)) + (pcM xs ys i j))), some (gi ((dd xs ys (i + 1) j) + 1)), some (gi ((dd xs ys i (j + 1)) + 1))]) rfl ?_
                      refine gX_iload dX12_least_160 rfl ?_
                      refine gX_iload dX12_least_162 rfl ?_
                      refine gX_icmpge (tgt := 172) dX12_least_164 (by decide) (fun w17 => ?_) (fun w17 => ?_)
                      · refine gX_iload dX12_least_172 rfl ?_
                        refine gX_istore dX12_least_174 (show (7 : Nat) < 10 from by decide) (ls2 := [some (ga 775), some (gi a), some (gi b), some (gi (xs.length : Int)), some (gi (ys.length : Int)), some (gi i), some (gi j), some (gi ((dd xs ys (i + 1) (j + 1)) + (pcM xs ys i j))), some (gi ((dd xs ys (i + 1) j) + 1)), some (gi ((dd xs ys i (j + 1)) + 1))]) rfl ?_
                        refine gX_aloadn dX12_least_176 rfl ?_
                        refine gX_gR 57 dX12_least_177 fdX12_126 rfl rfl hM.1 (mR57 hM) ?_
                        refine gX_bipush dX12_least_180 (by decide) ⟨by decide, by decide⟩ ?_
                        refine gX_iload dX12_least_182 rfl ?_
                        refine gX_imul dX12_least_184 ⟨by omega, by omega⟩ ?_
                        refine gX_iload dX12_least_185 rfl ?_
                        refine gX_iadd dX12_least_187 ⟨by omega, by omega⟩ ?_
                        refine gX_iload dX12_least_188 rfl ?_
                        refine gX_iast dX12_least_190 (mA57 hM) (by omega) (by omega) ?_
                        refine gX_iinc dX12_least_191 rfl (show (6 : Nat) < 10 from by decide) ⟨by omega, by omega⟩ (ls2 := [some (ga 775), some (gi a), some (gi b), some (gi (xs.length : Int)), some (gi (ys.length : Int)), some (gi i), some (gi (j + (-1))), some (gi ((dd xs ys (i + 1) (j + 1)) + (pcM xs ys i j))), some (gi ((dd xs ys (i + 1) j) + 1)), some (gi ((dd xs ys i (j + 1)) + 1))]) rfl ?_
                        refine gX_goto (tgt := 27) dX12_least_194 (by decide) ?_
                        first
                        | (exfalso; omega)
                        | (have hdd : (dd xs ys (i + 1) (j + 1)) + (pcM xs ys i j) = dd xs ys i j := by omega
                           refine ih (j + (-1)) _ _ _ _ _ _ (by omega) (by omega) (by omega) (by rw [show j + (-1) + 1 = j by omega]; exact hc2.up hy40 (by omega) (by omega) hdd) (fun x hx9 => by rw [gup_ne (by omega)]; exact hf2 x hx9) hk2)
                      · refine gX_iload dX12_least_167 rfl ?_
                        refine gX_goto (tgt := 174) dX12_least_169 (by decide) ?_
                        refine gX_istore dX12_least_174 (show (7 : Nat) < 10 from by decide) (ls2 := [some (ga 775), some (gi a), some (gi b), some (gi (xs.length : Int)), some (gi (ys.length : Int)), some (gi i), some (gi j), some (gi ((dd xs ys i (j + 1)) + 1)), some (gi ((dd xs ys (i + 1) j) + 1)), some (gi ((dd xs ys i (j + 1)) + 1))]) rfl ?_
                        refine gX_aloadn dX12_least_176 rfl ?_
                        refine gX_gR 57 dX12_least_177 fdX12_126 rfl rfl hM.1 (mR57 hM) ?_
                        refine gX_bipush dX12_least_180 (by decide) ⟨by decide, by decide⟩ ?_
                        refine gX_iload dX12_least_182 rfl ?_
                        refine gX_imul dX12_least_184 ⟨by omega, by omega⟩ ?_
                        refine gX_iload dX12_least_185 rfl ?_
                        refine gX_iadd dX12_least_187 ⟨by omega, by omega⟩ ?_
                        refine gX_iload dX12_least_188 rfl ?_
                        refine gX_iast dX12_least_190 (mA57 hM) (by omega) (by omega) ?_
                        refine gX_iinc dX12_least_191 rfl (show (6 : Nat) < 10 from by decide) ⟨by omega, by omega⟩ (ls2 := [some (ga 775), some (gi a), some (gi b), some (gi (xs.length : Int)), some (gi (ys.length : Int)), some (gi i), some (gi (j + (-1))), some (gi ((dd xs ys i (j + 1)) + 1)), some (gi ((dd xs ys (i + 1) j) + 1)), some (gi ((dd xs ys i (j + 1)) + 1))]) rfl ?_
                        refine gX_goto (tgt := 27) dX12_least_194 (by decide) ?_
                        first
                        | (exfalso; omega)
                        | (have hdd : (dd xs ys i (j + 1)) + 1 = dd xs ys i j := by omega
                           refine ih (j + (-1)) _ _ _ _ _ _ (by omega) (by omega) (by omega) (by rw [show j + (-1) + 1 = j by omega]; exact hc2.up hy40 (by omega) (by omega) hdd) (fun x hx9 => by rw [gup_ne (by omega)]; exact hf2 x hx9) hk2)
                    · refine gX_iload dX12_least_151 rfl ?_
                      refine gX_goto (tgt := 158) dX12_least_153 (by decide) ?_
                      refine gX_istore dX12_least_158 (show (7 : Nat) < 10 from by decide) (ls2 := [some (ga 775), some (gi a), some (gi b), some (gi (xs.length : Int)), some (gi (ys.length : Int)), some (gi i), some (gi j), some (gi ((dd xs ys (i + 1) j) + 1)), some (gi ((dd xs ys (i + 1) j) + 1)), some (gi ((dd xs ys i (j + 1)) + 1))]) rfl ?_
                      refine gX_iload dX12_least_160 rfl ?_
                      refine gX_iload dX12_least_162 rfl ?_
                      refine gX_icmpge (tgt := 172) dX12_least_164 (by decide) (fun w18 => ?_) (fun w18 => ?_)
                      · refine gX_iload dX12_least_172 rfl ?_
                        refine gX_istore dX12_least_174 (show (7 : Nat) < 10 from by decide) (ls2 := [some (ga 775), some (gi a), some (gi b), some (gi (xs.length : Int)), some (gi (ys.length : Int)), some (gi i), some (gi j), some (gi ((dd xs ys (i + 1) j) + 1)), some (gi ((dd xs ys (i + 1) j) + 1)), some (gi ((dd xs ys i (j + 1)) + 1))]) rfl ?_
                        refine gX_aloadn dX12_least_176 rfl ?_
                        refine gX_gR 57 dX12_least_177 fdX12_126 rfl rfl hM.1 (mR57 hM) ?_
                        refine gX_bipush dX12_least_180 (by decide) ⟨by decide, by decide⟩ ?_
                        refine gX_iload dX12_least_182 rfl ?_
                        refine gX_imul dX12_least_184 ⟨by omega, by omega⟩ ?_
                        refine gX_iload dX12_least_185 rfl ?_
                        refine gX_iadd dX12_least_187 ⟨by omega, by omega⟩ ?_
                        refine gX_iload dX12_least_188 rfl ?_
                        refine gX_iast dX12_least_190 (mA57 hM) (by omega) (by omega) ?_
                        refine gX_iinc dX12_least_191 rfl (show (6 : Nat) < 10 from by decide) ⟨by omega, by omega⟩ (ls2 := [some (ga 775), some (gi a), some (gi b), some (gi (xs.length : Int)), some (gi (ys.length : Int)), some (gi i), some (gi (j + (-1))), some (gi ((dd xs ys (i + 1) j) + 1)), some (gi ((dd xs ys (i + 1) j) + 1)), some (gi ((dd xs ys i (j + 1)) + 1))]) rfl ?_
                        refine gX_goto (tgt := 27) dX12_least_194 (by decide) ?_
                        first
                        | (exfalso; omega)
                        | (have hdd : (dd xs ys (i + 1) j) + 1 = dd xs ys i j := by omega
                           refine ih (j + (-1)) _ _ _ _ _ _ (by omega) (by omega) (by omega) (by rw [show j + (-1) + 1 = j by omega]; exact hc2.up hy40 (by omega) (by omega) hdd) (fun x hx9 => by rw [gup_ne (by omega)]; exact hf2 x hx9) hk2)
                      · refine gX_iload dX12_least_167 rfl ?_
                        refine gX_goto (tgt := 174) dX12_least_169 (by decide) ?_
                        refine gX_istore dX12_least_174 (show (7 : Nat) < 10 from by decide) (ls2 := [some (ga 775), some (gi a), some (gi b), some (gi (xs.length : Int)), some (gi (ys.length : Int)), some (gi i), some (gi j), some (gi ((dd xs ys i (j + 1)) + 1)), some (gi ((dd xs ys (i + 1) j) + 1)), some (gi ((dd xs ys i (j + 1)) + 1))]) rfl ?_
                        refine gX_aloadn dX12_least_176 rfl ?_
                        refine gX_gR 57 dX12_least_177 fdX12_126 rfl rfl hM.1 (mR57 hM) ?_
                        refine gX_bipush dX12_least_180 (by decide) ⟨by decide, by decide⟩ ?_
                        refine gX_iload dX12_least_182 rfl ?_
                        refine gX_imul dX12_least_184 ⟨by omega, by omega⟩ ?_
                        refine gX_iload dX12_least_185 rfl ?_
                        refine gX_iadd dX12_least_187 ⟨by omega, by omega⟩ ?_
                        refine gX_iload dX12_least_188 rfl ?_
                        refine gX_iast dX12_least_190 (mA57 hM) (by omega) (by omega) ?_
                        refine gX_iinc dX12_least_191 rfl (show (6 : Nat) < 10 from by decide) ⟨by omega, by omega⟩ (ls2 := [some (ga 775), some (gi a), some (gi b), some (gi (xs.length : Int)), some (gi (ys.length : Int)), some (gi i), some (gi (j + (-1))), some (gi ((dd xs ys i (j + 1)) + 1)), some (gi ((dd xs ys (i + 1) j) + 1)), some (gi ((dd xs ys i (j + 1)) + 1))]) rfl ?_
                        refine gX_goto (tgt := 27) dX12_least_194 (by decide) ?_
                        first
                        | (exfalso; omega)
                        | (have hdd : (dd xs ys i (j + 1)) + 1 = dd xs ys i j := by omega
                           refine ih (j + (-1)) _ _ _ _ _ _ (by omega) (by omega) (by omega) (by rw [show j + (-1) + 1 = j by omega]; exact hc2.up hy40 (by omega) (by omega) hdd) (fun x hx9 => by rw [gup_ne (by omega)]; exact hf2 x hx9) hk2)
        refine lq (ys.length + 2) (ys.length : Int) _ _ _ V1 _ _ (by omega) (by omega) (by omega) (fun i2 j2 a0 a1 a2 a3 a4 => hc1 i2 j2 a0 a1 a2 a3 (by omega)) hf1 (fun V3 j6 j7 j8 j9 bc bs hc3 hf3 => ?_)
        refine gX_iinc dX12_least_197 rfl (show (5 : Nat) < 10 from by decide) ⟨by omega, by omega⟩ (ls2 := [some (ga 775), some (gi a), some (gi b), some (gi (xs.length : Int)), some (gi (ys.length : Int)), some (gi (i + (-1))), j6, j7, j8, j9]) rfl ?_
        refine gX_goto (tgt := 18) dX12_least_200 (by decide) ?_
        exact ih (i + (-1)) _ _ _ _ V3 _ _ (by omega) (by omega) (by omega) (by rw [show i + (-1) + 1 = i by omega]; exact hc3) hf3
  refine gX_aloadn dX12_least_0 rfl ?_
  refine gX_gR 1 dX12_least_1 fdX12_7 rfl rfl hM.1 (mR1 hM) ?_
  refine gX_iloadn dX12_least_4 rfl ?_
  refine gX_iald dX12_least_5 (mA1 hM) (by omega) (by omega) ?_
  rw [hx.1]
  refine gX_istoren dX12_least_6 (show (3 : Nat) < 10 from by decide) (ls2 := [some (ga 775), some (gi a), some (gi b), some (gi (xs.length : Int)), none, none, none, none, none, none]) rfl ?_
  refine gX_aloadn dX12_least_7 rfl ?_
  refine gX_gR 1 dX12_least_8 fdX12_7 rfl rfl hM.1 (mR1 hM) ?_
  refine gX_iloadn dX12_least_11 rfl ?_
  refine gX_iald dX12_least_12 (mA1 hM) (by omega) (by omega) ?_
  rw [hy.1]
  refine gX_istore dX12_least_13 (show (4 : Nat) < 10 from by decide) (ls2 := [some (ga 775), some (gi a), some (gi b), some (gi (xs.length : Int)), some (gi (ys.length : Int)), none, none, none, none, none]) rfl ?_
  refine gX_iloadn dX12_least_15 rfl ?_
  refine gX_istore dX12_least_16 (show (5 : Nat) < 10 from by decide) (ls2 := [some (ga 775), some (gi a), some (gi b), some (gi (xs.length : Int)), some (gi (ys.length : Int)), some (gi (xs.length : Int)), none, none, none, none]) rfl ?_
  exact lp (xs.length + 2) (xs.length : Int) _ _ _ _ V _ _ (by omega) (by omega) (by omega) (fun i2 j2 a0 a1 a2 a3 a4 => by omega) (fun _ _ => rfl)
theorem dd_00 (xs ys : List Int) : dd xs ys 0 0 = ed xs ys := rfl
/-- what align leaves: the partners, what is put in -/
def alI (V : Int → Int → Int) (xs ys : List Int) : Prop := (∀ i : Int, 0 ≤ i → i < xs.length → V 814 i = lat (alg xs ys 0) i) ∧ ∀ j : Int, 0 ≤ j → j < ys.length → V 815 j = if j ∈ alg xs ys 0 then 0 else 1
def aFr (V V' : Int → Int → Int) : Prop := ∀ a, a ≠ 813 → a ≠ 814 → a ≠ 815 → V' a = V a
theorem aFr.q {V V' : Int → Int → Int} (h : aFr V V') : qFr V V' := ⟨fun a ha => h a (by omega) (by omega) (by omega), by rw [h 775 (by omega) (by omega) (by omega)], by rw [h 775 (by omega) (by omega) (by omega)], by rw [h 775 (by omega) (by omega) (by omega)]⟩
theorem lat_app_l {xs ys : List Int} {k : Int} (h0 : 0 ≤ k) (h : k < xs.length) : lat (xs ++ ys) k = lat xs k := by
  unfold lat
  rw [if_neg (by omega), if_neg (by omega), List.getD_eq_getElem?_getD, List.getD_eq_getElem?_getD, List.getElem?_append_left (by omega)]
theorem lat_app_s {xs : List Int} {k x : Int} (h : k = xs.length) : lat (xs ++ [x]) k = x := by
  unfold lat
  rw [if_neg (by omega), List.getD_eq_getElem?_getD, List.getElem?_append_right (by omega), show k.toNat - xs.length = 0 by omega]
  rfl
theorem beA {V : Int → Int → Int} {pre : List Int} {i x : Int} (hl : pre.length = i.toNat) (h : ∀ k : Int, 0 ≤ k → k < i → V 814 k = lat pre k) (k : Int) (k0 : 0 ≤ k) (k1 : k < i + 1) : gup V 814 i x 814 k = lat (pre ++ [x]) k := by
  by_cases e : k = i
  · subst e
    rw [lat_app_s (by omega)]
    exact gup_s
  · rw [gup_k e, h k k0 (by omega), lat_app_l k0 (by omega)]
theorem memA {pre : List Int} {k x : Int} (h : k ≠ x) : (if k ∈ pre ++ [x] then (0 : Int) else 1) = if k ∈ pre then 0 else 1 := by
  by_cases c : k ∈ pre
  · rw [if_pos c, if_pos (List.mem_append_left _ c)]
  · rw [if_neg c, if_neg (fun z => by
      rcases List.mem_append.mp z with z | z
      · exact c z
      · exact h (List.mem_singleton.mp z))]
set_option maxRecDepth 4000 in
theorem m_align (hM : mdK K R) (ha : 0 ≤ a ∧ a ≤ 10) (hb : 0 ≤ b ∧ b ≤ 10) (hx : txI V a xs) (hy : txI V b ys) (hQ : ∀ V', alI V' xs ys → aFr V V' → Q none (K, R, V')) : gC l E (d + 3) iX12_align [ga 775, gi a, gi b] (K, R, V) Q := by
  refine gC_of kX12_align (ls := [some (ga 775), some (gi a), some (gi b), none, none, none, none, none, none, none, none]) rfl (Nat.le_of_ble_eq_true rfl) ?_
  have hx40 := hx.2.1
  have hy40 := hy.2.1
  have hnn := (dd_bd hx40 hy40 0 0).1
  refine gX_aloadn dX12_align_0 rfl ?_
  refine gX_iloadn dX12_align_1 rfl ?_
  refine gX_iloadn dX12_align_2 rfl ?_
  refine gX_virt (J := iX12_least) (av := [gi a, gi b]) (a := 775) (st := []) dX12_align_3 lkX12_419 kX12_least vX12_least (gFit_m (by decide)) hM.1 rfl rfl (Nat.le_of_ble_eq_true rfl) (Nat.zero_le _) (Nat.zero_le _) rfl ?_
  refine m_least hM ha hb hx hy (fun V1 hc1 hf1 => ?_)
  show gX l E _ 6 [some (ga 775), some (gi a), some (gi b), none, none, none, none, none, none, none, none] [gi (dd xs ys 0 0)] (K, R, V1) _ _
  refine gX_istoren dX12_align_6 (show (3 : Nat) < 11 from by decide) (ls2 := [some (ga 775), some (gi a), some (gi b), some (gi (dd xs ys 0 0)), none, none, none, none, none, none, none]) rfl ?_
  refine gX_aloadn dX12_align_7 rfl ?_
  refine gX_gR 1 dX12_align_8 fdX12_7 rfl rfl hM.1 (mR1 hM) ?_
  refine gX_iloadn dX12_align_11 rfl ?_
  refine gX_iald dX12_align_12 (mA1 hM) (by omega) (by omega) ?_
  rw [show V1 776 a = xs.length by rw [hf1 776 (by omega)]; exact hx.1]
  refine gX_istore dX12_align_13 (show (4 : Nat) < 11 from by decide) (ls2 := [some (ga 775), some (gi a), some (gi b), some (gi (dd xs ys 0 0)), some (gi (xs.length : Int)), none, none, none, none, none, none]) rfl ?_
  refine gX_aloadn dX12_align_15 rfl ?_
  refine gX_gR 1 dX12_align_16 fdX12_7 rfl rfl hM.1 (mR1 hM) ?_
  refine gX_iloadn dX12_align_19 rfl ?_
  refine gX_iald dX12_align_20 (mA1 hM) (by omega) (by omega) ?_
  rw [show V1 776 b = ys.length by rw [hf1 776 (by omega)]; exact hy.1]
  refine gX_istore dX12_align_21 (show (5 : Nat) < 11 from by decide) (ls2 := [some (ga 775), some (gi a), some (gi b), some (gi (dd xs ys 0 0)), some (gi (xs.length : Int)), some (gi (ys.length : Int)), none, none, none, none, none]) rfl ?_
  refine gX_iconst dX12_align_23 ⟨by decide, by decide⟩ ?_
  refine gX_istore dX12_align_24 (show (6 : Nat) < 11 from by decide) (ls2 := [some (ga 775), some (gi a), some (gi b), some (gi (dd xs ys 0 0)), some (gi (xs.length : Int)), some (gi (ys.length : Int)), some (gi 0), none, none, none, none]) rfl ?_
  have l1 : ∀ (jj : Nat) (j : Int) (V2 : Int → Int → Int) (bc bs : Nat), (ys.length : Int) - j < (jj : Int) → 0 ≤ j → j ≤ (ys.length : Int) → (∀ k : Int, 0 ≤ k → k < j → V2 815 k = 1) → (∀ x, x ≠ 815 → V2 x = V1 x) → gX l E (gFm E (d + 3) iX12_align Q) 26 [some (ga 775), some (gi a), some (gi b), some (gi (dd xs ys 0 0)), some (gi (xs.length : Int)), some (gi (ys.length : Int)), some (gi j), none, none, none, none] [] (K, R, V2) bc bs := by
    intro jj
    induction jj with
    | zero =>
      intro j V2 bc bs hj p0 p1 hp2 hz2
      exfalso; omega
    | succ jj ih =>
      intro j V2 bc bs hj p0 p1 hp2 hz2
      refine gX_iload dX12_align_26 rfl ?_
      refine gX_iload dX12_align_28 rfl ?_
      refine gX_icmpge (tgt := 47) dX12_align_30 (by decide) (fun s1 => ?_) (fun s1 => ?_)
      · refine gX_iconst dX12_align_47 ⟨by decide, by decide⟩ ?_
        refine gX_istore dX12_align_48 (show (6 : Nat) < 11 from by decide) (ls2 := [some (ga 775), some (gi a), some (gi b), some (gi (dd xs ys 0 0)), some (gi (xs.length : Int)), some (gi (ys.length : Int)), some (gi 0), none, none, none, none]) rfl ?_
        refine gX_iconst dX12_align_50 ⟨by decide, by decide⟩ ?_
        refine gX_istore dX12_align_51 (show (7 : Nat) < 11 from by decide) (ls2 := [some (ga 775), some (gi a), some (gi b), some (gi (dd xs ys 0 0)), some (gi (xs.length : Int)), some (gi (ys.length : Int)), some (gi 0), some (gi 0), none, none, none]) rfl ?_
        have lp : ∀ (jj : Nat) (i : Int) (j : Int) (j8 : Option gV) (j9 : Option gV) (j10 : Option gV) (pre : List Int) (V3 : Int → Int → Int) (bc bs : Nat), ((xs.length : Int) - i) + ((ys.length : Int) - j) < (jj : Int) → 0 ≤ i → i ≤ (xs.length : Int) → 0 ≤ j → j ≤ (ys.length : Int) → pre.length = i.toNat → pre ++ alg (xs.drop i.toNat) (ys.drop j.toNat) j = alg xs ys 0 → (∀ k : Int, 0 ≤ k → k < i → V3 814 k = lat pre k) → (∀ k : Int, 0 ≤ k → k < (ys.length : Int) → V3 815 k = if k ∈ pre then 0 else 1) → aFr V V3 → V3 813 = V1 813 → gX l E (gFm E (d + 3) iX12_align Q) 53 [some (ga 775), some (gi a), some (gi b), some (gi (dd xs ys 0 0)), some (gi (xs.length : Int)), some (gi (ys.length : Int)), some (gi i), some (gi j), j8, j9, j10] [] (K, R, V3) bc bs := by
          intro jj
          induction jj with
          | zero =>
            intro i j j8 j9 j10 pre V3 bc bs hj q0 q1 q2 q3 hl3 he3 hp3 hu3 hf3 h813
            exfalso; omega
          | succ jj ih =>
            intro i j j8 j9 j10 pre V3 bc bs hj q0 q1 q2 q3 hl3 he3 hp3 hu3 hf3 h813
            refine gX_iloadn dX12_align_53 rfl ?_
            refine gX_iflt (tgt := 262) dX12_align_54 (by decide) (fun m1 => ?_) (fun m1 => ?_)
            · refine gX_vret dX12_align_262 rfl ?_
              first
              | (exfalso; omega)
              | (have hz : alg (xs.drop i.toNat) (ys.drop j.toNat) j = [] := alg_tp (by omega) j
                 rw [hz, List.append_nil] at he3
                 rw [he3] at hp3 hu3
                 exact hQ V3 ⟨fun k k0 k1 => hp3 k k0 (by omega), hu3⟩ hf3)
            · refine gX_iload dX12_align_57 rfl ?_
              refine gX_iload dX12_align_59 rfl ?_
              refine gX_icmplt (tgt := 71) dX12_align_61 (by decide) (fun m2 => ?_) (fun m2 => ?_)
              · have c0 : V3 813 (41 * i + j) = dd xs ys i j := by rw [h813]; exact hc1 i j (by omega) (by omega) (by omega) (by omega)
                have b0 := dd_bd hx40 hy40 i j
                refine gX_aloadn dX12_align_71 rfl ?_
                refine gX_gR 57 dX12_align_72 fdX12_126 rfl rfl hM.1 (mR57 hM) ?_
                refine gX_bipush dX12_align_75 (by decide) ⟨by decide, by decide⟩ ?_
                refine gX_iload dX12_align_77 rfl ?_
                refine gX_imul dX12_align_79 ⟨by omega, by omega⟩ ?_
                refine gX_iload dX12_align_80 rfl ?_
                refine gX_iadd dX12_align_82 ⟨by omega, by omega⟩ ?_
                refine gX_iald dX12_align_83 (mA57 hM) (by omega) (by omega) ?_
                rw [c0]
                refine gX_istore dX12_align_84 (show (8 : Nat) < 11 from by decide) (ls2 := [some (ga 775), some (gi a), some (gi b), some (gi (dd xs ys 0 0)), some (gi (xs.length : Int)), some (gi (ys.length : Int)), some (gi i), some (gi j), some (gi (dd xs ys i j)), j9, j10]) rfl ?_
                refine gX_iload dX12_align_86 rfl ?_
                refine gX_iload dX12_align_88 rfl ?_
                refine gX_icmpge (tgt := 137) dX12_align_90 (by decide) (fun m3 => ?_) (fun m3 => ?_)
                · refine gX_iconst dX12_align_137 ⟨by decide, by decide⟩ ?_
                  refine gX_istore dX12_align_138 (show (9 : Nat) < 11 from by decide) (ls2 := [some (ga 775), some (gi a), some (gi b), some (gi (dd xs ys 0 0)), some (gi (xs.length : Int)), some (gi (ys.length : Int)), some (gi i), some (gi j), some (gi (dd xs ys i j)), some (gi 0), j10]) rfl ?_
                  refine gX_iload dX12_align_140 rfl ?_
                  refine gX_ifne (tgt := 178) dX12_align_142 (by decide) (fun m4 => by exfalso; omega) (fun m4 => ?_)
                  refine gX_iload dX12_align_145 rfl ?_
                  refine gX_iload dX12_align_147 rfl ?_
                  refine gX_icmpge (tgt := 178) dX12_align_149 (by decide) (fun m5 => ?_) (fun m5 => ?_)
                  · refine gX_iconst dX12_align_178 ⟨by decide, by decide⟩ ?_
                    refine gX_istore dX12_align_179 (show (10 : Nat) < 11 from by decide) (ls2 := [some (ga 775), some (gi a), some (gi b), some (gi (dd xs ys 0 0)), some (gi (xs.length : Int)), some (gi (ys.length : Int)), some (gi i), some (gi j), some (gi (dd xs ys i j)), some (gi 0), some (gi 0)]) rfl ?_
                    refine gX_iload dX12_align_181 rfl ?_
                    refine gX_ifeq (tgt := 206) dX12_align_183 (by decide) (fun m6 => ?_) (fun m6 => by exfalso; omega)
                    refine gX_iload dX12_align_206 rfl ?_
                    refine gX_ifeq (tgt := 219) dX12_align_208 (by decide) (fun m7 => ?_) (fun m7 => by exfalso; omega)
                    refine gX_iload dX12_align_219 rfl ?_
                    refine gX_iload dX12_align_221 rfl ?_
                    refine gX_ifne (tgt := 231) dX12_align_223 (by decide) (fun m8 => by exfalso; omega) (fun m8 => ?_)
                    refine gX_iload dX12_align_226 rfl ?_
                    refine gX_ifeq (tgt := 235) dX12_align_228 (by decide) (fun m9 => ?_) (fun m9 => by exfalso; omega)
                    refine gX_iconst dX12_align_235 ⟨by decide, by decide⟩ ?_
                    refine gX_iadd dX12_align_236 ⟨by omega, by omega⟩ ?_
                    refine gX_istore dX12_align_237 (show (6 : Nat) < 11 from by decide) (ls2 := [some (ga 775), some (gi a), some (gi b), some (gi (dd xs ys 0 0)), some (gi (xs.length : Int)), some (gi (ys.length : Int)), some (gi (i + 0)), some (gi j), some (gi (dd xs ys i j)), some (gi 0), some (gi 0)]) rfl ?_
                    refine gX_iload dX12_align_239 rfl ?_
                    refine gX_iload dX12_align_241 rfl ?_
                    refine gX_ifne (tgt := 251) dX12_align_243 (by decide) (fun m10 => by exfalso; omega) (fun m10 => ?_)
                    refine gX_iload dX12_align_246 rfl ?_
                    refine gX_ifne (tgt := 255) dX12_align_248 (by decide) (fun m11 => by exfalso; omega) (fun m11 => ?_)
                    refine gX_iconst dX12_align_251 ⟨by decide, by decide⟩ ?_
                    refine gX_goto (tgt := 256) dX12_align_252 (by decide) ?_
                    refine gX_iadd dX12_align_256 ⟨by omega, by omega⟩ ?_
                    refine gX_istore dX12_align_257 (show (7 : Nat) < 11 from by decide) (ls2 := [some (ga 775), some (gi a), some (gi b), some (gi (dd xs ys 0 0)), some (gi (xs.length : Int)), some (gi (ys.length : Int)), some (gi (i + 0)), some (gi (j + 1)), some (gi (dd xs ys i j)), some (gi 0), some (gi 0)]) rfl ?_
                    refine gX_goto (tgt := 53) dX12_align_259 (by decide) ?_
                    by_cases hfz : False
                    · exact hfz.elim
                    · first
                      | (exfalso; omega)
                      | (have ej9 : j < ys.length := Decidable.byContradiction fun z => by
                           have d1 := dd_right (xs := xs) (ys := ys) (i := i) (j := j) (by omega) (by omega) (by omega)
                           have d2 := dd_right (xs := xs) (ys := ys) (i := i + 1) (j := j) (by omega) (by omega) (by omega)
                           omega
                         have ad : alg (xs.drop i.toNat) (ys.drop j.toNat) j = alg (xs.drop i.toNat) (ys.drop (j + 1).toNat) (j + 1) := by
                           by_cases ei : i < xs.length
                           · by_cases ej : j < ys.length
                             · rw [alg_st (by omega) ei (by omega) ej, if_neg (by first | omega | (intro z; omega)), if_neg (by first | omega | (intro z; omega))]
                             · exfalso; have := dd_right (xs := xs) (ys := ys) (i := i) (j := j) (by omega) (by omega) (by omega); have := dd_right (xs := xs) (ys := ys) (i := i + 1) (j := j) (by omega) (by omega) (by omega); omega
                           · rw [alg_tp (by omega), alg_tp (by omega)]
                         rw [ad] at he3
                         exact ih (i + 0) (j + 1) _ _ _ pre V3 _ _ (by omega) (by omega) (by omega) (by omega) (by omega) (by omega) (by rw [show i + 0 = i by omega]; exact he3) (fun k k0 k1 => hp3 k k0 (by omega)) hu3 hf3 h813
                         )
                  · have c2 : V3 813 (41 * (i + 1) + j) = dd xs ys (i + 1) j := by rw [h813]; exact hc1 (i + 1) j (by omega) (by omega) (by omega) (by omega)
                    have b2 := dd_bd hx40 hy40 (i + 1) j
                    refine gX_iload dX12_align_152 rfl ?_
                    refine gX_aloadn dX12_align_154 rfl ?_
                    refine gX_gR 57 dX12_align_155 fdX12_126 rfl rfl hM.1 (mR57 hM) ?_
                    refine gX_bipush dX12_align_158 (by decide) ⟨by decide, by decide⟩ ?_
                    refine gX_iload dX12_align_160 rfl ?_
                    refine gX_iconst dX12_align_162 ⟨by decide, by decide⟩ ?_
                    refine gX_iadd dX12_align_163 ⟨by omega, by omega⟩ ?_
                    refine gX_imul dX12_align_164 ⟨by omega, by omega⟩ ?_
                    refine gX_iload dX12_align_165 rfl ?_
                    refine gX_iadd dX12_align_167 ⟨by omega, by omega⟩ ?_
                    refine gX_iald dX12_align_168 (mA57 hM) (by omega) (by omega) ?_
                    rw [c2]
                    refine gX_iconst dX12_align_169 ⟨by decide, by decide⟩ ?_
                    refine gX_iadd dX12_align_170 ⟨by omega, by omega⟩ ?_
                    refine gX_icmpne (tgt := 178) dX12_align_171 (by decide) (fun m12 => ?_) (fun m12 => ?_)
                    · refine gX_iconst dX12_align_178 ⟨by decide, by decide⟩ ?_
                      refine gX_istore dX12_align_179 (show (10 : Nat) < 11 from by decide) (ls2 := [some (ga 775), some (gi a), some (gi b), some (gi (dd xs ys 0 0)), some (gi (xs.length : Int)), some (gi (ys.length : Int)), some (gi i), some (gi j), some (gi (dd xs ys i j)), some (gi 0), some (gi 0)]) rfl ?_
                      refine gX_iload dX12_align_181 rfl ?_
                      refine gX_ifeq (tgt := 206) dX12_align_183 (by decide) (fun m13 => ?_) (fun m13 => by exfalso; omega)
                      refine gX_iload dX12_align_206 rfl ?_
                      refine gX_ifeq (tgt := 219) dX12_align_208 (by decide) (fun m14 => ?_) (fun m14 => by exfalso; omega)
                      refine gX_iload dX12_align_219 rfl ?_
                      refine gX_iload dX12_align_221 rfl ?_
                      refine gX_ifne (tgt := 231) dX12_align_223 (by decide) (fun m15 => by exfalso; omega) (fun m15 => ?_)
                      refine gX_iload dX12_align_226 rfl ?_
                      refine gX_ifeq (tgt := 235) dX12_align_228 (by decide) (fun m16 => ?_) (fun m16 => by exfalso; omega)
                      refine gX_iconst dX12_align_235 ⟨by decide, by decide⟩ ?_
                      refine gX_iadd dX12_align_236 ⟨by omega, by omega⟩ ?_
                      refine gX_istore dX12_align_237 (show (6 : Nat) < 11 from by decide) (ls2 := [some (ga 775), some (gi a), some (gi b), some (gi (dd xs ys 0 0)), some (gi (xs.length : Int)), some (gi (ys.length : Int)), some (gi (i + 0)), some (gi j), some (gi (dd xs ys i j)), some (gi 0), some (gi 0)]) rfl ?_
                      refine gX_iload dX12_align_239 rfl ?_
                      refine gX_iload dX12_align_241 rfl ?_
                      refine gX_ifne (tgt := 251) dX12_align_243 (by decide) (fun m17 => by exfalso; omega) (fun m17 => ?_)
                      refine gX_iload dX12_align_246 rfl ?_
                      refine gX_ifne (tgt := 255) dX12_align_248 (by decide) (fun m18 => by exfalso; omega) (fun m18 => ?_)
                      refine gX_iconst dX12_align_251 ⟨by decide, by decide⟩ ?_
                      refine gX_goto (tgt := 256) dX12_align_252 (by decide) ?_
                      refine gX_iadd dX12_align_256 ⟨by omega, by omega⟩ ?_
                      refine gX_istore dX12_align_257 (show (7 : Nat) < 11 from by decide) (ls2 := [some (ga 775), some (gi a), some (gi b), some (gi (dd xs ys 0 0)), some (gi (xs.length : Int)), some (gi (ys.length : Int)), some (gi (i + 0)), some (gi (j + 1)), some (gi (dd xs ys i j)), some (gi 0), some (gi 0)]) rfl ?_
                      refine gX_goto (tgt := 53) dX12_align_259 (by decide) ?_
                      by_cases hfz : False
                      · exact hfz.elim
                      · first
                        | (exfalso; omega)
                        | (have ej9 : j < ys.length := Decidable.byContradiction fun z => by
                             have d1 := dd_right (xs := xs) (ys := ys) (i := i) (j := j) (by omega) (by omega) (by omega)
                             have d2 := dd_right (xs := xs) (ys := ys) (i := i + 1) (j := j) (by omega) (by omega) (by omega)
                             omega
                           have ad : alg (xs.drop i.toNat) (ys.drop j.toNat) j = alg (xs.drop i.toNat) (ys.drop (j + 1).toNat) (j + 1) := by
                             by_cases ei : i < xs.length
                             · by_cases ej : j < ys.length
                               · rw [alg_st (by omega) ei (by omega) ej, if_neg (by first | omega | (intro z; omega)), if_neg (by first | omega | (intro z; omega))]
                               · exfalso; have := dd_right (xs := xs) (ys := ys) (i := i) (j := j) (by omega) (by omega) (by omega); have := dd_right (xs := xs) (ys := ys) (i := i + 1) (j := j) (by omega) (by omega) (by omega); omega
                             · rw [alg_tp (by omega), alg_tp (by omega)]
                           rw [ad] at he3
                           exact ih (i + 0) (j + 1) _ _ _ pre V3 _ _ (by omega) (by omega) (by omega) (by omega) (by omega) (by omega) (by rw [show i + 0 = i by omega]; exact he3) (fun k k0 k1 => hp3 k k0 (by omega)) hu3 hf3 h813
                           )
                    · refine gX_iconst dX12_align_174 ⟨by decide, by decide⟩ ?_
                      refine gX_goto (tgt := 179) dX12_align_175 (by decide) ?_
                      refine gX_istore dX12_align_179 (show (10 : Nat) < 11 from by decide) (ls2 := [some (ga 775), some (gi a), some (gi b), some (gi (dd xs ys 0 0)), some (gi (xs.length : Int)), some (gi (ys.length : Int)), some (gi i), some (gi j), some (gi (dd xs ys i j)), some (gi 0), some (gi 1)]) rfl ?_
                      refine gX_iload dX12_align_181 rfl ?_
                      refine gX_ifeq (tgt := 206) dX12_align_183 (by decide) (fun m19 => ?_) (fun m19 => by exfalso; omega)
                      refine gX_iload dX12_align_206 rfl ?_
                      refine gX_ifeq (tgt := 219) dX12_align_208 (by decide) (fun m20 => by exfalso; omega) (fun m20 => ?_)
                      refine gX_aloadn dX12_align_211 rfl ?_
                      refine gX_gR 58 dX12_align_212 fdX12_129 rfl rfl hM.1 (mR58 hM) ?_
                      refine gX_iload dX12_align_215 rfl ?_
                      refine gX_iconst dX12_align_217 ⟨by decide, by decide⟩ ?_
                      refine gX_iast dX12_align_218 (mA58 hM) (by omega) (by omega) ?_
                      refine gX_iload dX12_align_219 rfl ?_
                      refine gX_iload dX12_align_221 rfl ?_
                      refine gX_ifne (tgt := 231) dX12_align_223 (by decide) (fun m21 => by exfalso; omega) (fun m21 => ?_)
                      refine gX_iload dX12_align_226 rfl ?_
                      refine gX_ifeq (tgt := 235) dX12_align_228 (by decide) (fun m22 => by exfalso; omega) (fun m22 => ?_)
                      refine gX_iconst dX12_align_231 ⟨by decide, by decide⟩ ?_
                      refine gX_goto (tgt := 236) dX12_align_232 (by decide) ?_
                      refine gX_iadd dX12_align_236 ⟨by omega, by omega⟩ ?_
                      refine gX_istore dX12_align_237 (show (6 : Nat) < 11 from by decide) (ls2 := [some (ga 775), some (gi a), some (gi b), some (gi (dd xs ys 0 0)), some (gi (xs.length : Int)), some (gi (ys.length : Int)), some (gi (i + 1)), some (gi j), some (gi (dd xs ys i j)), some (gi 0), some (gi 1)]) rfl ?_
                      refine gX_iload dX12_align_239 rfl ?_
                      refine gX_iload dX12_align_241 rfl ?_
                      refine gX_ifne (tgt := 251) dX12_align_243 (by decide) (fun m23 => by exfalso; omega) (fun m23 => ?_)
                      refine gX_iload dX12_align_246 rfl ?_
                      refine gX_ifne (tgt := 255) dX12_align_248 (by decide) (fun m24 => ?_) (fun m24 => by exfalso; omega)
                      refine gX_iconst dX12_align_255 ⟨by decide, by decide⟩ ?_
                      refine gX_iadd dX12_align_256 ⟨by omega, by omega⟩ ?_
                      refine gX_istore dX12_align_257 (show (7 : Nat) < 11 from by decide) (ls2 := [some (ga 775), some (gi a), some (gi b), some (gi (dd xs ys 0 0)), some (gi (xs.length : Int)), some (gi (ys.length : Int)), some (gi (i + 1)), some (gi (j + 0)), some (gi (dd xs ys i j)), some (gi 0), some (gi 1)]) rfl ?_
                      refine gX_goto (tgt := 53) dX12_align_259 (by decide) ?_
                      by_cases hfz : False
                      · exact hfz.elim
                      · first
                        | (exfalso; omega)
                        | (have ad : alg (xs.drop i.toNat) (ys.drop j.toNat) j = -1 :: alg (xs.drop (i + 1).toNat) (ys.drop j.toNat) j := by
                             by_cases ej : j < ys.length
                             · rw [alg_st (by omega) (by omega) (by omega) ej, if_neg (by first | omega | (intro z; omega)), if_pos (by omega)]
                             · exact alg_rt (by omega) (by omega) (by omega) j
                           rw [ad] at he3
                           refine ih (i + 1) (j + 0) _ _ _ (pre ++ [-1]) _ _ _ (by omega) (by omega) (by omega) (by omega) (by omega) (by rw [List.length_append]; show pre.length + 1 = _; omega) (by rw [← he3, List.append_assoc, show j + 0 = j by omega]; rfl) (beA hl3 hp3) (fun k k0 k1 => ?_) (fun x x1 x2 x3 => by rw [gup_ne x2]; exact hf3 x x1 x2 x3) (by rw [gup_ne (by omega)]; exact h813)
                           rw [gup_ne (by omega), hu3 k k0 k1]
                           exact (memA (by omega)).symm
                           )
                · refine gX_iload dX12_align_93 rfl ?_
                  refine gX_iload dX12_align_95 rfl ?_
                  refine gX_icmpge (tgt := 137) dX12_align_97 (by decide) (fun m25 => ?_) (fun m25 => ?_)
                  · refine gX_iconst dX12_align_137 ⟨by decide, by decide⟩ ?_
                    refine gX_istore dX12_align_138 (show (9 : Nat) < 11 from by decide) (ls2 := [some (ga 775), some (gi a), some (gi b), some (gi (dd xs ys 0 0)), some (gi (xs.length : Int)), some (gi (ys.length : Int)), some (gi i), some (gi j), some (gi (dd xs ys i j)), some (gi 0), j10]) rfl ?_
                    refine gX_iload dX12_align_140 rfl ?_
                    refine gX_ifne (tgt := 178) dX12_align_142 (by decide) (fun m26 => by exfalso; omega) (fun m26 => ?_)
                    refine gX_iload dX12_align_145 rfl ?_
                    refine gX_iload dX12_align_147 rfl ?_
                    refine gX_icmpge (tgt := 178) dX12_align_149 (by decide) (fun m27 => ?_) (fun m27 => ?_)
                    · refine gX_iconst dX12_align_178 ⟨by decide, by decide⟩ ?_
                      refine gX_istore dX12_align_179 (show (10 : Nat) < 11 from by decide) (ls2 := [some (ga 775), some (gi a), some (gi b), some (gi (dd xs ys 0 0)), some (gi (xs.length : Int)), some (gi (ys.length : Int)), some (gi i), some (gi j), some (gi (dd xs ys i j)), some (gi 0), some (gi 0)]) rfl ?_
                      refine gX_iload dX12_align_181 rfl ?_
                      refine gX_ifeq (tgt := 206) dX12_align_183 (by decide) (fun m28 => ?_) (fun m28 => by exfalso; omega)
                      refine gX_iload dX12_align_206 rfl ?_
                      refine gX_ifeq (tgt := 219) dX12_align_208 (by decide) (fun m29 => ?_) (fun m29 => by exfalso; omega)
                      refine gX_iload dX12_align_219 rfl ?_
                      refine gX_iload dX12_align_221 rfl ?_
                      refine gX_ifne (tgt := 231) dX12_align_223 (by decide) (fun m30 => by exfalso; omega) (fun m30 => ?_)
                      refine gX_iload dX12_align_226 rfl ?_
                      refine gX_ifeq (tgt := 235) dX12_align_228 (by decide) (fun m31 => ?_) (fun m31 => by exfalso; omega)
                      refine gX_iconst dX12_align_235 ⟨by decide, by decide⟩ ?_
                      refine gX_iadd dX12_align_236 ⟨by omega, by omega⟩ ?_
                      refine gX_istore dX12_align_237 (show (6 : Nat) < 11 from by decide) (ls2 := [some (ga 775), some (gi a), some (gi b), some (gi (dd xs ys 0 0)), some (gi (xs.length : Int)), some (gi (ys.length : Int)), some (gi (i + 0)), some (gi j), some (gi (dd xs ys i j)), some (gi 0), some (gi 0)]) rfl ?_
                      refine gX_iload dX12_align_239 rfl ?_
                      refine gX_iload dX12_align_241 rfl ?_
                      refine gX_ifne (tgt := 251) dX12_align_243 (by decide) (fun m32 => by exfalso; omega) (fun m32 => ?_)
                      refine gX_iload dX12_align_246 rfl ?_
                      refine gX_ifne (tgt := 255) dX12_align_248 (by decide) (fun m33 => by exfalso; omega) (fun m33 => ?_)
                      refine gX_iconst dX12_align_251 ⟨by decide, by decide⟩ ?_
                      refine gX_goto (tgt := 256) dX12_align_252 (by decide) ?_
                      refine gX_iadd dX12_align_256 ⟨by omega, by omega⟩ ?_
                      refine gX_istore dX12_align_257 (show (7 : Nat) < 11 from by decide) (ls2 := [some (ga 775), some (gi a), some (gi b), some (gi (dd xs ys 0 0)), some (gi (xs.length : Int)), some (gi (ys.length : Int)), some (gi (i + 0)), some (gi (j + 1)), some (gi (dd xs ys i j)), some (gi 0), some (gi 0)]) rfl ?_
                      refine gX_goto (tgt := 53) dX12_align_259 (by decide) ?_
                      by_cases hfz : False
                      · exact hfz.elim
                      · first
                        | (exfalso; omega)
                        | (have ej9 : j < ys.length := Decidable.byContradiction fun z => by
                             have d1 := dd_right (xs := xs) (ys := ys) (i := i) (j := j) (by omega) (by omega) (by omega)
                             have d2 := dd_right (xs := xs) (ys := ys) (i := i + 1) (j := j) (by omega) (by omega) (by omega)
                             omega
                           have ad : alg (xs.drop i.toNat) (ys.drop j.toNat) j = alg (xs.drop i.toNat) (ys.drop (j + 1).toNat) (j + 1) := by
                             by_cases ei : i < xs.length
                             · by_cases ej : j < ys.length
                               · rw [alg_st (by omega) ei (by omega) ej, if_neg (by first | omega | (intro z; omega)), if_neg (by first | omega | (intro z; omega))]
                               · exfalso; have := dd_right (xs := xs) (ys := ys) (i := i) (j := j) (by omega) (by omega) (by omega); have := dd_right (xs := xs) (ys := ys) (i := i + 1) (j := j) (by omega) (by omega) (by omega); omega
                             · rw [alg_tp (by omega), alg_tp (by omega)]
                           rw [ad] at he3
                           exact ih (i + 0) (j + 1) _ _ _ pre V3 _ _ (by omega) (by omega) (by omega) (by omega) (by omega) (by omega) (by rw [show i + 0 = i by omega]; exact he3) (fun k k0 k1 => hp3 k k0 (by omega)) hu3 hf3 h813
                           )
                    · have c2 : V3 813 (41 * (i + 1) + j) = dd xs ys (i + 1) j := by rw [h813]; exact hc1 (i + 1) j (by omega) (by omega) (by omega) (by omega)
                      have b2 := dd_bd hx40 hy40 (i + 1) j
                      refine gX_iload dX12_align_152 rfl ?_
                      refine gX_aloadn dX12_align_154 rfl ?_
                      refine gX_gR 57 dX12_align_155 fdX12_126 rfl rfl hM.1 (mR57 hM) ?_
                      refine gX_bipush dX12_align_158 (by decide) ⟨by decide, by decide⟩ ?_
                      refine gX_iload dX12_align_160 rfl ?_
                      refine gX_iconst dX12_align_162 ⟨by decide, by decide⟩ ?_
                      refine gX_iadd dX12_align_163 ⟨by omega, by omega⟩ ?_
                      refine gX_imul dX12_align_164 ⟨by omega, by omega⟩ ?_
                      refine gX_iload dX12_align_165 rfl ?_
                      refine gX_iadd dX12_align_167 ⟨by omega, by omega⟩ ?_
                      refine gX_iald dX12_align_168 (mA57 hM) (by omega) (by omega) ?_
                      rw [c2]
                      refine gX_iconst dX12_align_169 ⟨by decide, by decide⟩ ?_
                      refine gX_iadd dX12_align_170 ⟨by omega, by omega⟩ ?_
                      refine gX_icmpne (tgt := 178) dX12_align_171 (by decide) (fun m34 => ?_) (fun m34 => ?_)
                      · refine gX_iconst dX12_align_178 ⟨by decide, by decide⟩ ?_
                        refine gX_istore dX12_align_179 (show (10 : Nat) < 11 from by decide) (ls2 := [some (ga 775), some (gi a), some (gi b), some (gi (dd xs ys 0 0)), some (gi (xs.length : Int)), some (gi (ys.length : Int)), some (gi i), some (gi j), some (gi (dd xs ys i j)), some (gi 0), some (gi 0)]) rfl ?_
                        refine gX_iload dX12_align_181 rfl ?_
                        refine gX_ifeq (tgt := 206) dX12_align_183 (by decide) (fun m35 => ?_) (fun m35 => by exfalso; omega)
                        refine gX_iload dX12_align_206 rfl ?_
                        refine gX_ifeq (tgt := 219) dX12_align_208 (by decide) (fun m36 => ?_) (fun m36 => by exfalso; omega)
                        refine gX_iload dX12_align_219 rfl ?_
                        refine gX_iload dX12_align_221 rfl ?_
                        refine gX_ifne (tgt := 231) dX12_align_223 (by decide) (fun m37 => by exfalso; omega) (fun m37 => ?_)
                        refine gX_iload dX12_align_226 rfl ?_
                        refine gX_ifeq (tgt := 235) dX12_align_228 (by decide) (fun m38 => ?_) (fun m38 => by exfalso; omega)
                        refine gX_iconst dX12_align_235 ⟨by decide, by decide⟩ ?_
                        refine gX_iadd dX12_align_236 ⟨by omega, by omega⟩ ?_
                        refine gX_istore dX12_align_237 (show (6 : Nat) < 11 from by decide) (ls2 := [some (ga 775), some (gi a), some (gi b), some (gi (dd xs ys 0 0)), some (gi (xs.length : Int)), some (gi (ys.length : Int)), some (gi (i + 0)), some (gi j), some (gi (dd xs ys i j)), some (gi 0), some (gi 0)]) rfl ?_
                        refine gX_iload dX12_align_239 rfl ?_
                        refine gX_iload dX12_align_241 rfl ?_
                        refine gX_ifne (tgt := 251) dX12_align_243 (by decide) (fun m39 => by exfalso; omega) (fun m39 => ?_)
                        refine gX_iload dX12_align_246 rfl ?_
                        refine gX_ifne (tgt := 255) dX12_align_248 (by decide) (fun m40 => by exfalso; omega) (fun m40 => ?_)
                        refine gX_iconst dX12_align_251 ⟨by decide, by decide⟩ ?_
                        refine gX_goto (tgt := 256) dX12_align_252 (by decide) ?_
                        refine gX_iadd dX12_align_256 ⟨by omega, by omega⟩ ?_
                        refine gX_istore dX12_align_257 (show (7 : Nat) < 11 from by decide) (ls2 := [some (ga 775), some (gi a), some (gi b), some (gi (dd xs ys 0 0)), some (gi (xs.length : Int)), some (gi (ys.length : Int)), some (gi (i + 0)), some (gi (j + 1)), some (gi (dd xs ys i j)), some (gi 0), some (gi 0)]) rfl ?_
                        refine gX_goto (tgt := 53) dX12_align_259 (by decide) ?_
                        by_cases hfz : False
                        · exact hfz.elim
                        · first
                          | (exfalso; omega)
                          | (have ej9 : j < ys.length := Decidable.byContradiction fun z => by
                               have d1 := dd_right (xs := xs) (ys := ys) (i := i) (j := j) (by omega) (by omega) (by omega)
                               have d2 := dd_right (xs := xs) (ys := ys) (i := i + 1) (j := j) (by omega) (by omega) (by omega)
                               omega
                             have ad : alg (xs.drop i.toNat) (ys.drop j.toNat) j = alg (xs.drop i.toNat) (ys.drop (j + 1).toNat) (j + 1) := by
                               by_cases ei : i < xs.length
                               · by_cases ej : j < ys.length
                                 · rw [alg_st (by omega) ei (by omega) ej, if_neg (by first | omega | (intro z; omega)), if_neg (by first | omega | (intro z; omega))]
                                 · exfalso; have := dd_right (xs := xs) (ys := ys) (i := i) (j := j) (by omega) (by omega) (by omega); have := dd_right (xs := xs) (ys := ys) (i := i + 1) (j := j) (by omega) (by omega) (by omega); omega
                               · rw [alg_tp (by omega), alg_tp (by omega)]
                             rw [ad] at he3
                             exact ih (i + 0) (j + 1) _ _ _ pre V3 _ _ (by omega) (by omega) (by omega) (by omega) (by omega) (by omega) (by rw [show i + 0 = i by omega]; exact he3) (fun k k0 k1 => hp3 k k0 (by omega)) hu3 hf3 h813
                             )
                      · refine gX_iconst dX12_align_174 ⟨by decide, by decide⟩ ?_
                        refine gX_goto (tgt := 179) dX12_align_175 (by decide) ?_
                        refine gX_istore dX12_align_179 (show (10 : Nat) < 11 from by decide) (ls2 := [some (ga 775), some (gi a), some (gi b), some (gi (dd xs ys 0 0)), some (gi (xs.length : Int)), some (gi (ys.length : Int)), some (gi i), some (gi j), some (gi (dd xs ys i j)), some (gi 0), some (gi 1)]) rfl ?_
                        refine gX_iload dX12_align_181 rfl ?_
                        refine gX_ifeq (tgt := 206) dX12_align_183 (by decide) (fun m41 => ?_) (fun m41 => by exfalso; omega)
                        refine gX_iload dX12_align_206 rfl ?_
                        refine gX_ifeq (tgt := 219) dX12_align_208 (by decide) (fun m42 => by exfalso; omega) (fun m42 => ?_)
                        refine gX_aloadn dX12_align_211 rfl ?_
                        refine gX_gR 58 dX12_align_212 fdX12_129 rfl rfl hM.1 (mR58 hM) ?_
                        refine gX_iload dX12_align_215 rfl ?_
                        refine gX_iconst dX12_align_217 ⟨by decide, by decide⟩ ?_
                        refine gX_iast dX12_align_218 (mA58 hM) (by omega) (by omega) ?_
                        refine gX_iload dX12_align_219 rfl ?_
                        refine gX_iload dX12_align_221 rfl ?_
                        refine gX_ifne (tgt := 231) dX12_align_223 (by decide) (fun m43 => by exfalso; omega) (fun m43 => ?_)
                        refine gX_iload dX12_align_226 rfl ?_
                        refine gX_ifeq (tgt := 235) dX12_align_228 (by decide) (fun m44 => by exfalso; omega) (fun m44 => ?_)
                        refine gX_iconst dX12_align_231 ⟨by decide, by decide⟩ ?_
                        refine gX_goto (tgt := 236) dX12_align_232 (by decide) ?_
                        refine gX_iadd dX12_align_236 ⟨by omega, by omega⟩ ?_
                        refine gX_istore dX12_align_237 (show (6 : Nat) < 11 from by decide) (ls2 := [some (ga 775), some (gi a), some (gi b), some (gi (dd xs ys 0 0)), some (gi (xs.length : Int)), some (gi (ys.length : Int)), some (gi (i + 1)), some (gi j), some (gi (dd xs ys i j)), some (gi 0), some (gi 1)]) rfl ?_
                        refine gX_iload dX12_align_239 rfl ?_
                        refine gX_iload dX12_align_241 rfl ?_
                        refine gX_ifne (tgt := 251) dX12_align_243 (by decide) (fun m45 => by exfalso; omega) (fun m45 => ?_)
                        refine gX_iload dX12_align_246 rfl ?_
                        refine gX_ifne (tgt := 255) dX12_align_248 (by decide) (fun m46 => ?_) (fun m46 => by exfalso; omega)
                        refine gX_iconst dX12_align_255 ⟨by decide, by decide⟩ ?_
                        refine gX_iadd dX12_align_256 ⟨by omega, by omega⟩ ?_
                        refine gX_istore dX12_align_257 (show (7 : Nat) < 11 from by decide) (ls2 := [some (ga 775), some (gi a), some (gi b), some (gi (dd xs ys 0 0)), some (gi (xs.length : Int)), some (gi (ys.length : Int)), some (gi (i + 1)), some (gi (j + 0)), some (gi (dd xs ys i j)), some (gi 0), some (gi 1)]) rfl ?_
                        refine gX_goto (tgt := 53) dX12_align_259 (by decide) ?_
                        by_cases hfz : False
                        · exact hfz.elim
                        · first
                          | (exfalso; omega)
                          | (have ad : alg (xs.drop i.toNat) (ys.drop j.toNat) j = -1 :: alg (xs.drop (i + 1).toNat) (ys.drop j.toNat) j := by
                               by_cases ej : j < ys.length
                               · rw [alg_st (by omega) (by omega) (by omega) ej, if_neg (by first | omega | (intro z; omega)), if_pos (by omega)]
                               · exact alg_rt (by omega) (by omega) (by omega) j
                             rw [ad] at he3
                             refine ih (i + 1) (j + 0) _ _ _ (pre ++ [-1]) _ _ _ (by omega) (by omega) (by omega) (by omega) (by omega) (by rw [List.length_append]; show pre.length + 1 = _; omega) (by rw [← he3, List.append_assoc, show j + 0 = j by omega]; rfl) (beA hl3 hp3) (fun k k0 k1 => ?_) (fun x x1 x2 x3 => by rw [gup_ne x2]; exact hf3 x x1 x2 x3) (by rw [gup_ne (by omega)]; exact h813)
                             rw [gup_ne (by omega), hu3 k k0 k1]
                             exact (memA (by omega)).symm
                             )
                  · have c1 : V3 813 (41 * (i + 1) + j + 1) = dd xs ys (i + 1) (j + 1) := by rw [h813, show 41 * (i + 1) + j + 1 = 41 * (i + 1) + (j + 1) by omega]; exact hc1 (i + 1) (j + 1) (by omega) (by omega) (by omega) (by omega)
                    have b1 := dd_bd hx40 hy40 (i + 1) (j + 1)
                    have b4 := pcM_bd xs ys i j
                    refine gX_iload dX12_align_100 rfl ?_
                    refine gX_aloadn dX12_align_102 rfl ?_
                    refine gX_gR 57 dX12_align_103 fdX12_126 rfl rfl hM.1 (mR57 hM) ?_
                    refine gX_bipush dX12_align_106 (by decide) ⟨by decide, by decide⟩ ?_
                    refine gX_iload dX12_align_108 rfl ?_
                    refine gX_iconst dX12_align_110 ⟨by decide, by decide⟩ ?_
                    refine gX_iadd dX12_align_111 ⟨by omega, by omega⟩ ?_
                    refine gX_imul dX12_align_112 ⟨by omega, by omega⟩ ?_
                    refine gX_iload dX12_align_113 rfl ?_
                    refine gX_iadd dX12_align_115 ⟨by omega, by omega⟩ ?_
                    refine gX_iconst dX12_align_116 ⟨by decide, by decide⟩ ?_
                    refine gX_iadd dX12_align_117 ⟨by omega, by omega⟩ ?_
                    refine gX_iald dX12_align_118 (mA57 hM) (by omega) (by omega) ?_
                    rw [c1]
                    refine gX_aloadn dX12_align_119 rfl ?_
                    refine gX_iloadn dX12_align_120 rfl ?_
                    refine gX_iload dX12_align_121 rfl ?_
                    refine gX_iloadn dX12_align_123 rfl ?_
                    refine gX_iload dX12_align_124 rfl ?_
                    refine gX_virt (J := iX12_pairCost) (av := [gi a, gi i, gi b, gi j]) (a := 775) (st := [gi (dd xs ys (i + 1) (j + 1)), gi (dd xs ys i j)]) dX12_align_126 lkX12_415 kX12_pairCost vX12_pairCost (gFit_m (by decide)) hM.1 rfl rfl (Nat.le_of_ble_eq_true rfl) (Nat.zero_le _) (Nat.zero_le _) rfl ?_
                    refine m_pairCost hM ha hb (hx.kept (hf3 776 (by omega) (by omega) (by omega)) (hf3 777 (by omega) (by omega) (by omega))) (hy.kept (hf3 776 (by omega) (by omega) (by omega)) (hf3 777 (by omega) (by omega) (by omega))) ⟨by omega, by omega⟩ ⟨by omega, by omega⟩ ?_
                    show gX l E _ 129 [some (ga 775), some (gi a), some (gi b), some (gi (dd xs ys 0 0)), some (gi (xs.length : Int)), some (gi (ys.length : Int)), some (gi i), some (gi j), some (gi (dd xs ys i j)), j9, j10] [gi (pcM xs ys i j), gi (dd xs ys (i + 1) (j + 1)), gi (dd xs ys i j)] (K, R, V3) _ _
                    refine gX_iadd dX12_align_129 ⟨by omega, by omega⟩ ?_
                    refine gX_icmpne (tgt := 137) dX12_align_130 (by decide) (fun m47 => ?_) (fun m47 => ?_)
                    · refine gX_iconst dX12_align_137 ⟨by decide, by decide⟩ ?_
                      refine gX_istore dX12_align_138 (show (9 : Nat) < 11 from by decide) (ls2 := [some (ga 775), some (gi a), some (gi b), some (gi (dd xs ys 0 0)), some (gi (xs.length : Int)), some (gi (ys.length : Int)), some (gi i), some (gi j), some (gi (dd xs ys i j)), some (gi 0), j10]) rfl ?_
                      refine gX_iload dX12_align_140 rfl ?_
                      refine gX_ifne (tgt := 178) dX12_align_142 (by decide) (fun m48 => by exfalso; omega) (fun m48 => ?_)
                      refine gX_iload dX12_align_145 rfl ?_
                      refine gX_iload dX12_align_147 rfl ?_
                      refine gX_icmpge (tgt := 178) dX12_align_149 (by decide) (fun m49 => ?_) (fun m49 => ?_)
                      · refine gX_iconst dX12_align_178 ⟨by decide, by decide⟩ ?_
                        refine gX_istore dX12_align_179 (show (10 : Nat) < 11 from by decide) (ls2 := [some (ga 775), some (gi a), some (gi b), some (gi (dd xs ys 0 0)), some (gi (xs.length : Int)), some (gi (ys.length : Int)), some (gi i), some (gi j), some (gi (dd xs ys i j)), some (gi 0), some (gi 0)]) rfl ?_
                        refine gX_iload dX12_align_181 rfl ?_
                        refine gX_ifeq (tgt := 206) dX12_align_183 (by decide) (fun m50 => ?_) (fun m50 => by exfalso; omega)
                        refine gX_iload dX12_align_206 rfl ?_
                        refine gX_ifeq (tgt := 219) dX12_align_208 (by decide) (fun m51 => ?_) (fun m51 => by exfalso; omega)
                        refine gX_iload dX12_align_219 rfl ?_
                        refine gX_iload dX12_align_221 rfl ?_
                        refine gX_ifne (tgt := 231) dX12_align_223 (by decide) (fun m52 => by exfalso; omega) (fun m52 => ?_)
                        refine gX_iload dX12_align_226 rfl ?_
                        refine gX_ifeq (tgt := 235) dX12_align_228 (by decide) (fun m53 => ?_) (fun m53 => by exfalso; omega)
                        refine gX_iconst dX12_align_235 ⟨by decide, by decide⟩ ?_
                        refine gX_iadd dX12_align_236 ⟨by omega, by omega⟩ ?_
                        refine gX_istore dX12_align_237 (show (6 : Nat) < 11 from by decide) (ls2 := [some (ga 775), some (gi a), some (gi b), some (gi (dd xs ys 0 0)), some (gi (xs.length : Int)), some (gi (ys.length : Int)), some (gi (i + 0)), some (gi j), some (gi (dd xs ys i j)), some (gi 0), some (gi 0)]) rfl ?_
                        refine gX_iload dX12_align_239 rfl ?_
                        refine gX_iload dX12_align_241 rfl ?_
                        refine gX_ifne (tgt := 251) dX12_align_243 (by decide) (fun m54 => by exfalso; omega) (fun m54 => ?_)
                        refine gX_iload dX12_align_246 rfl ?_
                        refine gX_ifne (tgt := 255) dX12_align_248 (by decide) (fun m55 => by exfalso; omega) (fun m55 => ?_)
                        refine gX_iconst dX12_align_251 ⟨by decide, by decide⟩ ?_
                        refine gX_goto (tgt := 256) dX12_align_252 (by decide) ?_
                        refine gX_iadd dX12_align_256 ⟨by omega, by omega⟩ ?_
                        refine gX_istore dX12_align_257 (show (7 : Nat) < 11 from by decide) (ls2 := [some (ga 775), some (gi a), some (gi b), some (gi (dd xs ys 0 0)), some (gi (xs.length : Int)), some (gi (ys.length : Int)), some (gi (i + 0)), some (gi (j + 1)), some (gi (dd xs ys i j)), some (gi 0), some (gi 0)]) rfl ?_
                        refine gX_goto (tgt := 53) dX12_align_259 (by decide) ?_
                        by_cases hfz : False
                        · exact hfz.elim
                        · first
                          | (exfalso; omega)
                          | (have ej9 : j < ys.length := Decidable.byContradiction fun z => by
                               have d1 := dd_right (xs := xs) (ys := ys) (i := i) (j := j) (by omega) (by omega) (by omega)
                               have d2 := dd_right (xs := xs) (ys := ys) (i := i + 1) (j := j) (by omega) (by omega) (by omega)
                               omega
                             have ad : alg (xs.drop i.toNat) (ys.drop j.toNat) j = alg (xs.drop i.toNat) (ys.drop (j + 1).toNat) (j + 1) := by
                               by_cases ei : i < xs.length
                               · by_cases ej : j < ys.length
                                 · rw [alg_st (by omega) ei (by omega) ej, if_neg (by first | omega | (intro z; omega)), if_neg (by first | omega | (intro z; omega))]
                                 · exfalso; have := dd_right (xs := xs) (ys := ys) (i := i) (j := j) (by omega) (by omega) (by omega); have := dd_right (xs := xs) (ys := ys) (i := i + 1) (j := j) (by omega) (by omega) (by omega); omega
                               · rw [alg_tp (by omega), alg_tp (by omega)]
                             rw [ad] at he3
                             exact ih (i + 0) (j + 1) _ _ _ pre V3 _ _ (by omega) (by omega) (by omega) (by omega) (by omega) (by omega) (by rw [show i + 0 = i by omega]; exact he3) (fun k k0 k1 => hp3 k k0 (by omega)) hu3 hf3 h813
                             )
                      · have c2 : V3 813 (41 * (i + 1) + j) = dd xs ys (i + 1) j := by rw [h813]; exact hc1 (i + 1) j (by omega) (by omega) (by omega) (by omega)
                        have b2 := dd_bd hx40 hy40 (i + 1) j
                        refine gX_iload dX12_align_152 rfl ?_
                        refine gX_aloadn dX12_align_154 rfl ?_
                        refine gX_gR 57 dX12_align_155 fdX12_126 rfl rfl hM.1 (mR57 hM) ?_
                        refine gX_bipush dX12_align_158 (by decide) ⟨by decide, by decide⟩ ?_
                        refine gX_iload dX12_align_160 rfl ?_
                        refine gX_iconst dX12_align_162 ⟨by decide, by decide⟩ ?_
                        refine gX_iadd dX12_align_163 ⟨by omega, by omega⟩ ?_
                        refine gX_imul dX12_align_164 ⟨by omega, by omega⟩ ?_
                        refine gX_iload dX12_align_165 rfl ?_
                        refine gX_iadd dX12_align_167 ⟨by omega, by omega⟩ ?_
                        refine gX_iald dX12_align_168 (mA57 hM) (by omega) (by omega) ?_
                        rw [c2]
                        refine gX_iconst dX12_align_169 ⟨by decide, by decide⟩ ?_
                        refine gX_iadd dX12_align_170 ⟨by omega, by omega⟩ ?_
                        refine gX_icmpne (tgt := 178) dX12_align_171 (by decide) (fun m56 => ?_) (fun m56 => ?_)
                        · refine gX_iconst dX12_align_178 ⟨by decide, by decide⟩ ?_
                          refine gX_istore dX12_align_179 (show (10 : Nat) < 11 from by decide) (ls2 := [some (ga 775), some (gi a), some (gi b), some (gi (dd xs ys 0 0)), some (gi (xs.length : Int)), some (gi (ys.length : Int)), some (gi i), some (gi j), some (gi (dd xs ys i j)), some (gi 0), some (gi 0)]) rfl ?_
                          refine gX_iload dX12_align_181 rfl ?_
                          refine gX_ifeq (tgt := 206) dX12_align_183 (by decide) (fun m57 => ?_) (fun m57 => by exfalso; omega)
                          refine gX_iload dX12_align_206 rfl ?_
                          refine gX_ifeq (tgt := 219) dX12_align_208 (by decide) (fun m58 => ?_) (fun m58 => by exfalso; omega)
                          refine gX_iload dX12_align_219 rfl ?_
                          refine gX_iload dX12_align_221 rfl ?_
                          refine gX_ifne (tgt := 231) dX12_align_223 (by decide) (fun m59 => by exfalso; omega) (fun m59 => ?_)
                          refine gX_iload dX12_align_226 rfl ?_
                          refine gX_ifeq (tgt := 235) dX12_align_228 (by decide) (fun m60 => ?_) (fun m60 => by exfalso; omega)
                          refine gX_iconst dX12_align_235 ⟨by decide, by decide⟩ ?_
                          refine gX_iadd dX12_align_236 ⟨by omega, by omega⟩ ?_
                          refine gX_istore dX12_align_237 (show (6 : Nat) < 11 from by decide) (ls2 := [some (ga 775), some (gi a), some (gi b), some (gi (dd xs ys 0 0)), some (gi (xs.length : Int)), some (gi (ys.length : Int)), some (gi (i + 0)), some (gi j), some (gi (dd xs ys i j)), some (gi 0), some (gi 0)]) rfl ?_
                          refine gX_iload dX12_align_239 rfl ?_
                          refine gX_iload dX12_align_241 rfl ?_
                          refine gX_ifne (tgt := 251) dX12_align_243 (by decide) (fun m61 => by exfalso; omega) (fun m61 => ?_)
                          refine gX_iload dX12_align_246 rfl ?_
                          refine gX_ifne (tgt := 255) dX12_align_248 (by decide) (fun m62 => by exfalso; omega) (fun m62 => ?_)
                          refine gX_iconst dX12_align_251 ⟨by decide, by decide⟩ ?_
                          refine gX_goto (tgt := 256) dX12_align_252 (by decide) ?_
                          refine gX_iadd dX12_align_256 ⟨by omega, by omega⟩ ?_
                          refine gX_istore dX12_align_257 (show (7 : Nat) < 11 from by decide) (ls2 := [some (ga 775), some (gi a), some (gi b), some (gi (dd xs ys 0 0)), some (gi (xs.length : Int)), some (gi (ys.length : Int)), some (gi (i + 0)), some (gi (j + 1)), some (gi (dd xs ys i j)), some (gi 0), some (gi 0)]) rfl ?_
                          refine gX_goto (tgt := 53) dX12_align_259 (by decide) ?_
                          by_cases hfz : False
                          · exact hfz.elim
                          · first
                            | (exfalso; omega)
                            | (have ej9 : j < ys.length := Decidable.byContradiction fun z => by
                                 have d1 := dd_right (xs := xs) (ys := ys) (i := i) (j := j) (by omega) (by omega) (by omega)
                                 have d2 := dd_right (xs := xs) (ys := ys) (i := i + 1) (j := j) (by omega) (by omega) (by omega)
                                 omega
                               have ad : alg (xs.drop i.toNat) (ys.drop j.toNat) j = alg (xs.drop i.toNat) (ys.drop (j + 1).toNat) (j + 1) := by
                                 by_cases ei : i < xs.length
                                 · by_cases ej : j < ys.length
                                   · rw [alg_st (by omega) ei (by omega) ej, if_neg (by first | omega | (intro z; omega)), if_neg (by first | omega | (intro z; omega))]
                                   · exfalso; have := dd_right (xs := xs) (ys := ys) (i := i) (j := j) (by omega) (by omega) (by omega); have := dd_right (xs := xs) (ys := ys) (i := i + 1) (j := j) (by omega) (by omega) (by omega); omega
                                 · rw [alg_tp (by omega), alg_tp (by omega)]
                               rw [ad] at he3
                               exact ih (i + 0) (j + 1) _ _ _ pre V3 _ _ (by omega) (by omega) (by omega) (by omega) (by omega) (by omega) (by rw [show i + 0 = i by omega]; exact he3) (fun k k0 k1 => hp3 k k0 (by omega)) hu3 hf3 h813
                               )
                        · refine gX_iconst dX12_align_174 ⟨by decide, by decide⟩ ?_
                          refine gX_goto (tgt := 179) dX12_align_175 (by decide) ?_
                          refine gX_istore dX12_align_179 (show (10 : Nat) < 11 from by decide) (ls2 := [some (ga 775), some (gi a), some (gi b), some (gi (dd xs ys 0 0)), some (gi (xs.length : Int)), some (gi (ys.length : Int)), some (gi i), some (gi j), some (gi (dd xs ys i j)), some (gi 0), some (gi 1)]) rfl ?_
                          refine gX_iload dX12_align_181 rfl ?_
                          refine gX_ifeq (tgt := 206) dX12_align_183 (by decide) (fun m63 => ?_) (fun m63 => by exfalso; omega)
                          refine gX_iload dX12_align_206 rfl ?_
                          refine gX_ifeq (tgt := 219) dX12_align_208 (by decide) (fun m64 => by exfalso; omega) (fun m64 => ?_)
                          refine gX_aloadn dX12_align_211 rfl ?_
                          refine gX_gR 58 dX12_align_212 fdX12_129 rfl rfl hM.1 (mR58 hM) ?_
                          refine gX_iload dX12_align_215 rfl ?_
                          refine gX_iconst dX12_align_217 ⟨by decide, by decide⟩ ?_
                          refine gX_iast dX12_align_218 (mA58 hM) (by omega) (by omega) ?_
                          refine gX_iload dX12_align_219 rfl ?_
                          refine gX_iload dX12_align_221 rfl ?_
                          refine gX_ifne (tgt := 231) dX12_align_223 (by decide) (fun m65 => by exfalso; omega) (fun m65 => ?_)
                          refine gX_iload dX12_align_226 rfl ?_
                          refine gX_ifeq (tgt := 235) dX12_align_228 (by decide) (fun m66 => by exfalso; omega) (fun m66 => ?_)
                          refine gX_iconst dX12_align_231 ⟨by decide, by decide⟩ ?_
                          refine gX_goto (tgt := 236) dX12_align_232 (by decide) ?_
                          refine gX_iadd dX12_align_236 ⟨by omega, by omega⟩ ?_
                          refine gX_istore dX12_align_237 (show (6 : Nat) < 11 from by decide) (ls2 := [some (ga 775), some (gi a), some (gi b), some (gi (dd xs ys 0 0)), some (gi (xs.length : Int)), some (gi (ys.length : Int)), some (gi (i + 1)), some (gi j), some (gi (dd xs ys i j)), some (gi 0), some (gi 1)]) rfl ?_
                          refine gX_iload dX12_align_239 rfl ?_
                          refine gX_iload dX12_align_241 rfl ?_
                          refine gX_ifne (tgt := 251) dX12_align_243 (by decide) (fun m67 => by exfalso; omega) (fun m67 => ?_)
                          refine gX_iload dX12_align_246 rfl ?_
                          refine gX_ifne (tgt := 255) dX12_align_248 (by decide) (fun m68 => ?_) (fun m68 => by exfalso; omega)
                          refine gX_iconst dX12_align_255 ⟨by decide, by decide⟩ ?_
                          refine gX_iadd dX12_align_256 ⟨by omega, by omega⟩ ?_
                          refine gX_istore dX12_align_257 (show (7 : Nat) < 11 from by decide) (ls2 := [some (ga 775), some (gi a), some (gi b), some (gi (dd xs ys 0 0)), some (gi (xs.length : Int)), some (gi (ys.length : Int)), some (gi (i + 1)), some (gi (j + 0)), some (gi (dd xs ys i j)), some (gi 0), some (gi 1)]) rfl ?_
                          refine gX_goto (tgt := 53) dX12_align_259 (by decide) ?_
                          by_cases hfz : False
                          · exact hfz.elim
                          · first
                            | (exfalso; omega)
                            | (have ad : alg (xs.drop i.toNat) (ys.drop j.toNat) j = -1 :: alg (xs.drop (i + 1).toNat) (ys.drop j.toNat) j := by
                                 by_cases ej : j < ys.length
                                 · rw [alg_st (by omega) (by omega) (by omega) ej, if_neg (by first | omega | (intro z; omega)), if_pos (by omega)]
                                 · exact alg_rt (by omega) (by omega) (by omega) j
                               rw [ad] at he3
                               refine ih (i + 1) (j + 0) _ _ _ (pre ++ [-1]) _ _ _ (by omega) (by omega) (by omega) (by omega) (by omega) (by rw [List.length_append]; show pre.length + 1 = _; omega) (by rw [← he3, List.append_assoc, show j + 0 = j by omega]; rfl) (beA hl3 hp3) (fun k k0 k1 => ?_) (fun x x1 x2 x3 => by rw [gup_ne x2]; exact hf3 x x1 x2 x3) (by rw [gup_ne (by omega)]; exact h813)
                               rw [gup_ne (by omega), hu3 k k0 k1]
                               exact (memA (by omega)).symm
                               )
                    · refine gX_iconst dX12_align_133 ⟨by decide, by decide⟩ ?_
                      refine gX_goto (tgt := 138) dX12_align_134 (by decide) ?_
                      refine gX_istore dX12_align_138 (show (9 : Nat) < 11 from by decide) (ls2 := [some (ga 775), some (gi a), some (gi b), some (gi (dd xs ys 0 0)), some (gi (xs.length : Int)), some (gi (ys.length : Int)), some (gi i), some (gi j), some (gi (dd xs ys i j)), some (gi 1), j10]) rfl ?_
                      refine gX_iload dX12_align_140 rfl ?_
                      refine gX_ifne (tgt := 178) dX12_align_142 (by decide) (fun m69 => ?_) (fun m69 => by exfalso; omega)
                      refine gX_iconst dX12_align_178 ⟨by decide, by decide⟩ ?_
                      refine gX_istore dX12_align_179 (show (10 : Nat) < 11 from by decide) (ls2 := [some (ga 775), some (gi a), some (gi b), some (gi (dd xs ys 0 0)), some (gi (xs.length : Int)), some (gi (ys.length : Int)), some (gi i), some (gi j), some (gi (dd xs ys i j)), some (gi 1), some (gi 0)]) rfl ?_
                      refine gX_iload dX12_align_181 rfl ?_
                      refine gX_ifeq (tgt := 206) dX12_align_183 (by decide) (fun m70 => by exfalso; omega) (fun m70 => ?_)
                      refine gX_aloadn dX12_align_186 rfl ?_
                      refine gX_gR 58 dX12_align_187 fdX12_129 rfl rfl hM.1 (mR58 hM) ?_
                      refine gX_iload dX12_align_190 rfl ?_
                      refine gX_iload dX12_align_192 rfl ?_
                      refine gX_iast dX12_align_194 (mA58 hM) (by omega) (by omega) ?_
                      refine gX_aloadn dX12_align_195 rfl ?_
                      refine gX_gR 59 dX12_align_196 fdX12_132 rfl rfl hM.1 (mR59 hM) ?_
                      refine gX_iload dX12_align_199 rfl ?_
                      refine gX_iconst dX12_align_201 ⟨by decide, by decide⟩ ?_
                      refine gX_zast dX12_align_202 (Or.inl rfl) (mA59 hM) (by omega) (by omega) ?_
                      refine gX_goto (tgt := 219) dX12_align_203 (by decide) ?_
                      refine gX_iload dX12_align_219 rfl ?_
                      refine gX_iload dX12_align_221 rfl ?_
                      refine gX_ifne (tgt := 231) dX12_align_223 (by decide) (fun m71 => ?_) (fun m71 => by exfalso; omega)
                      refine gX_iconst dX12_align_231 ⟨by decide, by decide⟩ ?_
                      refine gX_goto (tgt := 236) dX12_align_232 (by decide) ?_
                      refine gX_iadd dX12_align_236 ⟨by omega, by omega⟩ ?_
                      refine gX_istore dX12_align_237 (show (6 : Nat) < 11 from by decide) (ls2 := [some (ga 775), some (gi a), some (gi b), some (gi (dd xs ys 0 0)), some (gi (xs.length : Int)), some (gi (ys.length : Int)), some (gi (i + 1)), some (gi j), some (gi (dd xs ys i j)), some (gi 1), some (gi 0)]) rfl ?_
                      refine gX_iload dX12_align_239 rfl ?_
                      refine gX_iload dX12_align_241 rfl ?_
                      refine gX_ifne (tgt := 251) dX12_align_243 (by decide) (fun m72 => ?_) (fun m72 => by exfalso; omega)
                      refine gX_iconst dX12_align_251 ⟨by decide, by decide⟩ ?_
                      refine gX_goto (tgt := 256) dX12_align_252 (by decide) ?_
                      refine gX_iadd dX12_align_256 ⟨by omega, by omega⟩ ?_
                      refine gX_istore dX12_align_257 (show (7 : Nat) < 11 from by decide) (ls2 := [some (ga 775), some (gi a), some (gi b), some (gi (dd xs ys 0 0)), some (gi (xs.length : Int)), some (gi (ys.length : Int)), some (gi (i + 1)), some (gi (j + 1)), some (gi (dd xs ys i j)), some (gi 1), some (gi 0)]) rfl ?_
                      refine gX_goto (tgt := 53) dX12_align_259 (by decide) ?_
                      by_cases hfz : False
                      · exact hfz.elim
                      · first
                        | (exfalso; omega)
                        | (have ad := alg_st (xs := xs) (ys := ys) (i := i) (j := j) (by omega) (by omega) (by omega) (by omega) j
                           rw [if_pos (by omega)] at ad
                           rw [ad] at he3
                           refine ih (i + 1) (j + 1) _ _ _ (pre ++ [j]) _ _ _ (by omega) (by omega) (by omega) (by omega) (by omega) (by rw [List.length_append]; show pre.length + 1 = _; omega) (by rw [← he3, List.append_assoc]; rfl) (fun k k0 k1 => ?_) (fun k k0 k1 => ?_) (fun x x1 x2 x3 => by rw [gup_ne x3, gup_ne x2]; exact hf3 x x1 x2 x3) (by rw [gup_ne (by omega), gup_ne (by omega)]; exact h813)
                           · rw [gup_ne (by omega)]
                             exact beA hl3 hp3 k k0 k1
                           · by_cases ek : k = j
                             · subst ek
                               rw [if_pos (List.mem_append_right _ (List.mem_singleton.mpr rfl))]
                               exact gup_s
                             · rw [gup_k ek, gup_ne (by omega), hu3 k k0 k1]
                               exact (memA ek).symm
                           )
              · refine gX_iload dX12_align_64 rfl ?_
                refine gX_iload dX12_align_66 rfl ?_
                refine gX_icmpge (tgt := 262) dX12_align_68 (by decide) (fun m73 => ?_) (fun m73 => ?_)
                · refine gX_vret dX12_align_262 rfl ?_
                  first
                  | (exfalso; omega)
                  | (have hz : alg (xs.drop i.toNat) (ys.drop j.toNat) j = [] := alg_tp (by omega) j
                     rw [hz, List.append_nil] at he3
                     rw [he3] at hp3 hu3
                     exact hQ V3 ⟨fun k k0 k1 => hp3 k k0 (by omega), hu3⟩ hf3)
                · have c0 : V3 813 (41 * i + j) = dd xs ys i j := by rw [h813]; exact hc1 i j (by omega) (by omega) (by omega) (by omega)
                  have b0 := dd_bd hx40 hy40 i j
                  refine gX_aloadn dX12_align_71 rfl ?_
                  refine gX_gR 57 dX12_align_72 fdX12_126 rfl rfl hM.1 (mR57 hM) ?_
                  refine gX_bipush dX12_align_75 (by decide) ⟨by decide, by decide⟩ ?_
                  refine gX_iload dX12_align_77 rfl ?_
                  refine gX_imul dX12_align_79 ⟨by omega, by omega⟩ ?_
                  refine gX_iload dX12_align_80 rfl ?_
                  refine gX_iadd dX12_align_82 ⟨by omega, by omega⟩ ?_
                  refine gX_iald dX12_align_83 (mA57 hM) (by omega) (by omega) ?_
                  rw [c0]
                  refine gX_istore dX12_align_84 (show (8 : Nat) < 11 from by decide) (ls2 := [some (ga 775), some (gi a), some (gi b), some (gi (dd xs ys 0 0)), some (gi (xs.length : Int)), some (gi (ys.length : Int)), some (gi i), some (gi j), some (gi (dd xs ys i j)), j9, j10]) rfl ?_
                  refine gX_iload dX12_align_86 rfl ?_
                  refine gX_iload dX12_align_88 rfl ?_
                  refine gX_icmpge (tgt := 137) dX12_align_90 (by decide) (fun m74 => ?_) (fun m74 => ?_)
                  · refine gX_iconst dX12_align_137 ⟨by decide, by decide⟩ ?_
                    refine gX_istore dX12_align_138 (show (9 : Nat) < 11 from by decide) (ls2 := [some (ga 775), some (gi a), some (gi b), some (gi (dd xs ys 0 0)), some (gi (xs.length : Int)), some (gi (ys.length : Int)), some (gi i), some (gi j), some (gi (dd xs ys i j)), some (gi 0), j10]) rfl ?_
                    refine gX_iload dX12_align_140 rfl ?_
                    refine gX_ifne (tgt := 178) dX12_align_142 (by decide) (fun m75 => by exfalso; omega) (fun m75 => ?_)
                    refine gX_iload dX12_align_145 rfl ?_
                    refine gX_iload dX12_align_147 rfl ?_
                    refine gX_icmpge (tgt := 178) dX12_align_149 (by decide) (fun m76 => ?_) (fun m76 => ?_)
                    · refine gX_iconst dX12_align_178 ⟨by decide, by decide⟩ ?_
                      refine gX_istore dX12_align_179 (show (10 : Nat) < 11 from by decide) (ls2 := [some (ga 775), some (gi a), some (gi b), some (gi (dd xs ys 0 0)), some (gi (xs.length : Int)), some (gi (ys.length : Int)), some (gi i), some (gi j), some (gi (dd xs ys i j)), some (gi 0), some (gi 0)]) rfl ?_
                      refine gX_iload dX12_align_181 rfl ?_
                      refine gX_ifeq (tgt := 206) dX12_align_183 (by decide) (fun m77 => ?_) (fun m77 => by exfalso; omega)
                      refine gX_iload dX12_align_206 rfl ?_
                      refine gX_ifeq (tgt := 219) dX12_align_208 (by decide) (fun m78 => ?_) (fun m78 => by exfalso; omega)
                      refine gX_iload dX12_align_219 rfl ?_
                      refine gX_iload dX12_align_221 rfl ?_
                      refine gX_ifne (tgt := 231) dX12_align_223 (by decide) (fun m79 => by exfalso; omega) (fun m79 => ?_)
                      refine gX_iload dX12_align_226 rfl ?_
                      refine gX_ifeq (tgt := 235) dX12_align_228 (by decide) (fun m80 => ?_) (fun m80 => by exfalso; omega)
                      refine gX_iconst dX12_align_235 ⟨by decide, by decide⟩ ?_
                      refine gX_iadd dX12_align_236 ⟨by omega, by omega⟩ ?_
                      refine gX_istore dX12_align_237 (show (6 : Nat) < 11 from by decide) (ls2 := [some (ga 775), some (gi a), some (gi b), some (gi (dd xs ys 0 0)), some (gi (xs.length : Int)), some (gi (ys.length : Int)), some (gi (i + 0)), some (gi j), some (gi (dd xs ys i j)), some (gi 0), some (gi 0)]) rfl ?_
                      refine gX_iload dX12_align_239 rfl ?_
                      refine gX_iload dX12_align_241 rfl ?_
                      refine gX_ifne (tgt := 251) dX12_align_243 (by decide) (fun m81 => by exfalso; omega) (fun m81 => ?_)
                      refine gX_iload dX12_align_246 rfl ?_
                      refine gX_ifne (tgt := 255) dX12_align_248 (by decide) (fun m82 => by exfalso; omega) (fun m82 => ?_)
                      refine gX_iconst dX12_align_251 ⟨by decide, by decide⟩ ?_
                      refine gX_goto (tgt := 256) dX12_align_252 (by decide) ?_
                      refine gX_iadd dX12_align_256 ⟨by omega, by omega⟩ ?_
                      refine gX_istore dX12_align_257 (show (7 : Nat) < 11 from by decide) (ls2 := [some (ga 775), some (gi a), some (gi b), some (gi (dd xs ys 0 0)), some (gi (xs.length : Int)), some (gi (ys.length : Int)), some (gi (i + 0)), some (gi (j + 1)), some (gi (dd xs ys i j)), some (gi 0), some (gi 0)]) rfl ?_
                      refine gX_goto (tgt := 53) dX12_align_259 (by decide) ?_
                      by_cases hfz : False
                      · exact hfz.elim
                      · first
                        | (exfalso; omega)
                        | (have ej9 : j < ys.length := Decidable.byContradiction fun z => by
                             have d1 := dd_right (xs := xs) (ys := ys) (i := i) (j := j) (by omega) (by omega) (by omega)
                             have d2 := dd_right (xs := xs) (ys := ys) (i := i + 1) (j := j) (by omega) (by omega) (by omega)
                             omega
                           have ad : alg (xs.drop i.toNat) (ys.drop j.toNat) j = alg (xs.drop i.toNat) (ys.drop (j + 1).toNat) (j + 1) := by
                             by_cases ei : i < xs.length
                             · by_cases ej : j < ys.length
                               · rw [alg_st (by omega) ei (by omega) ej, if_neg (by first | omega | (intro z; omega)), if_neg (by first | omega | (intro z; omega))]
                               · exfalso; have := dd_right (xs := xs) (ys := ys) (i := i) (j := j) (by omega) (by omega) (by omega); have := dd_right (xs := xs) (ys := ys) (i := i + 1) (j := j) (by omega) (by omega) (by omega); omega
                             · rw [alg_tp (by omega), alg_tp (by omega)]
                           rw [ad] at he3
                           exact ih (i + 0) (j + 1) _ _ _ pre V3 _ _ (by omega) (by omega) (by omega) (by omega) (by omega) (by omega) (by rw [show i + 0 = i by omega]; exact he3) (fun k k0 k1 => hp3 k k0 (by omega)) hu3 hf3 h813
                           )
                    · have c2 : V3 813 (41 * (i + 1) + j) = dd xs ys (i + 1) j := by rw [h813]; exact hc1 (i + 1) j (by omega) (by omega) (by omega) (by omega)
                      have b2 := dd_bd hx40 hy40 (i + 1) j
                      refine gX_iload dX12_align_152 rfl ?_
                      refine gX_aloadn dX12_align_154 rfl ?_
                      refine gX_gR 57 dX12_align_155 fdX12_126 rfl rfl hM.1 (mR57 hM) ?_
                      refine gX_bipush dX12_align_158 (by decide) ⟨by decide, by decide⟩ ?_
                      refine gX_iload dX12_align_160 rfl ?_
                      refine gX_iconst dX12_align_162 ⟨by decide, by decide⟩ ?_
                      refine gX_iadd dX12_align_163 ⟨by omega, by omega⟩ ?_
                      refine gX_imul dX12_align_164 ⟨by omega, by omega⟩ ?_
                      refine gX_iload dX12_align_165 rfl ?_
                      refine gX_iadd dX12_align_167 ⟨by omega, by omega⟩ ?_
                      refine gX_iald dX12_align_168 (mA57 hM) (by omega) (by omega) ?_
                      rw [c2]
                      refine gX_iconst dX12_align_169 ⟨by decide, by decide⟩ ?_
                      refine gX_iadd dX12_align_170 ⟨by omega, by omega⟩ ?_
                      refine gX_icmpne (tgt := 178) dX12_align_171 (by decide) (fun m83 => ?_) (fun m83 => ?_)
                      · refine gX_iconst dX12_align_178 ⟨by decide, by decide⟩ ?_
                        refine gX_istore dX12_align_179 (show (10 : Nat) < 11 from by decide) (ls2 := [some (ga 775), some (gi a), some (gi b), some (gi (dd xs ys 0 0)), some (gi (xs.length : Int)), some (gi (ys.length : Int)), some (gi i), some (gi j), some (gi (dd xs ys i j)), some (gi 0), some (gi 0)]) rfl ?_
                        refine gX_iload dX12_align_181 rfl ?_
                        refine gX_ifeq (tgt := 206) dX12_align_183 (by decide) (fun m84 => ?_) (fun m84 => by exfalso; omega)
                        refine gX_iload dX12_align_206 rfl ?_
                        refine gX_ifeq (tgt := 219) dX12_align_208 (by decide) (fun m85 => ?_) (fun m85 => by exfalso; omega)
                        refine gX_iload dX12_align_219 rfl ?_
                        refine gX_iload dX12_align_221 rfl ?_
                        refine gX_ifne (tgt := 231) dX12_align_223 (by decide) (fun m86 => by exfalso; omega) (fun m86 => ?_)
                        refine gX_iload dX12_align_226 rfl ?_
                        refine gX_ifeq (tgt := 235) dX12_align_228 (by decide) (fun m87 => ?_) (fun m87 => by exfalso; omega)
                        refine gX_iconst dX12_align_235 ⟨by decide, by decide⟩ ?_
                        refine gX_iadd dX12_align_236 ⟨by omega, by omega⟩ ?_
                        refine gX_istore dX12_align_237 (show (6 : Nat) < 11 from by decide) (ls2 := [some (ga 775), some (gi a), some (gi b), some (gi (dd xs ys 0 0)), some (gi (xs.length : Int)), some (gi (ys.length : Int)), some (gi (i + 0)), some (gi j), some (gi (dd xs ys i j)), some (gi 0), some (gi 0)]) rfl ?_
                        refine gX_iload dX12_align_239 rfl ?_
                        refine gX_iload dX12_align_241 rfl ?_
                        refine gX_ifne (tgt := 251) dX12_align_243 (by decide) (fun m88 => by exfalso; omega) (fun m88 => ?_)
                        refine gX_iload dX12_align_246 rfl ?_
                        refine gX_ifne (tgt := 255) dX12_align_248 (by decide) (fun m89 => by exfalso; omega) (fun m89 => ?_)
                        refine gX_iconst dX12_align_251 ⟨by decide, by decide⟩ ?_
                        refine gX_goto (tgt := 256) dX12_align_252 (by decide) ?_
                        refine gX_iadd dX12_align_256 ⟨by omega, by omega⟩ ?_
                        refine gX_istore dX12_align_257 (show (7 : Nat) < 11 from by decide) (ls2 := [some (ga 775), some (gi a), some (gi b), some (gi (dd xs ys 0 0)), some (gi (xs.length : Int)), some (gi (ys.length : Int)), some (gi (i + 0)), some (gi (j + 1)), some (gi (dd xs ys i j)), some (gi 0), some (gi 0)]) rfl ?_
                        refine gX_goto (tgt := 53) dX12_align_259 (by decide) ?_
                        by_cases hfz : False
                        · exact hfz.elim
                        · first
                          | (exfalso; omega)
                          | (have ej9 : j < ys.length := Decidable.byContradiction fun z => by
                               have d1 := dd_right (xs := xs) (ys := ys) (i := i) (j := j) (by omega) (by omega) (by omega)
                               have d2 := dd_right (xs := xs) (ys := ys) (i := i + 1) (j := j) (by omega) (by omega) (by omega)
                               omega
                             have ad : alg (xs.drop i.toNat) (ys.drop j.toNat) j = alg (xs.drop i.toNat) (ys.drop (j + 1).toNat) (j + 1) := by
                               by_cases ei : i < xs.length
                               · by_cases ej : j < ys.length
                                 · rw [alg_st (by omega) ei (by omega) ej, if_neg (by first | omega | (intro z; omega)), if_neg (by first | omega | (intro z; omega))]
                                 · exfalso; have := dd_right (xs := xs) (ys := ys) (i := i) (j := j) (by omega) (by omega) (by omega); have := dd_right (xs := xs) (ys := ys) (i := i + 1) (j := j) (by omega) (by omega) (by omega); omega
                               · rw [alg_tp (by omega), alg_tp (by omega)]
                             rw [ad] at he3
                             exact ih (i + 0) (j + 1) _ _ _ pre V3 _ _ (by omega) (by omega) (by omega) (by omega) (by omega) (by omega) (by rw [show i + 0 = i by omega]; exact he3) (fun k k0 k1 => hp3 k k0 (by omega)) hu3 hf3 h813
                             )
                      · refine gX_iconst dX12_align_174 ⟨by decide, by decide⟩ ?_
                        refine gX_goto (tgt := 179) dX12_align_175 (by decide) ?_
                        refine gX_istore dX12_align_179 (show (10 : Nat) < 11 from by decide) (ls2 := [some (ga 775), some (gi a), some (gi b), some (gi (dd xs ys 0 0)), some (gi (xs.length : Int)), some (gi (ys.length : Int)), some (gi i), some (gi j), some (gi (dd xs ys i j)), some (gi 0), some (gi 1)]) rfl ?_
                        refine gX_iload dX12_align_181 rfl ?_
                        refine gX_ifeq (tgt := 206) dX12_align_183 (by decide) (fun m90 => ?_) (fun m90 => by exfalso; omega)
                        refine gX_iload dX12_align_206 rfl ?_
                        refine gX_ifeq (tgt := 219) dX12_align_208 (by decide) (fun m91 => by exfalso; omega) (fun m91 => ?_)
                        refine gX_aloadn dX12_align_211 rfl ?_
                        refine gX_gR 58 dX12_align_212 fdX12_129 rfl rfl hM.1 (mR58 hM) ?_
                        refine gX_iload dX12_align_215 rfl ?_
                        refine gX_iconst dX12_align_217 ⟨by decide, by decide⟩ ?_
                        refine gX_iast dX12_align_218 (mA58 hM) (by omega) (by omega) ?_
                        refine gX_iload dX12_align_219 rfl ?_
                        refine gX_iload dX12_align_221 rfl ?_
                        refine gX_ifne (tgt := 231) dX12_align_223 (by decide) (fun m92 => by exfalso; omega) (fun m92 => ?_)
                        refine gX_iload dX12_align_226 rfl ?_
                        refine gX_ifeq (tgt := 235) dX12_align_228 (by decide) (fun m93 => by exfalso; omega) (fun m93 => ?_)
                        refine gX_iconst dX12_align_231 ⟨by decide, by decide⟩ ?_
                        refine gX_goto (tgt := 236) dX12_align_232 (by decide) ?_
                        refine gX_iadd dX12_align_236 ⟨by omega, by omega⟩ ?_
                        refine gX_istore dX12_align_237 (show (6 : Nat) < 11 from by decide) (ls2 := [some (ga 775), some (gi a), some (gi b), some (gi (dd xs ys 0 0)), some (gi (xs.length : Int)), some (gi (ys.length : Int)), some (gi (i + 1)), some (gi j), some (gi (dd xs ys i j)), some (gi 0), some (gi 1)]) rfl ?_
                        refine gX_iload dX12_align_239 rfl ?_
                        refine gX_iload dX12_align_241 rfl ?_
                        refine gX_ifne (tgt := 251) dX12_align_243 (by decide) (fun m94 => by exfalso; omega) (fun m94 => ?_)
                        refine gX_iload dX12_align_246 rfl ?_
                        refine gX_ifne (tgt := 255) dX12_align_248 (by decide) (fun m95 => ?_) (fun m95 => by exfalso; omega)
                        refine gX_iconst dX12_align_255 ⟨by decide, by decide⟩ ?_
                        refine gX_iadd dX12_align_256 ⟨by omega, by omega⟩ ?_
                        refine gX_istore dX12_align_257 (show (7 : Nat) < 11 from by decide) (ls2 := [some (ga 775), some (gi a), some (gi b), some (gi (dd xs ys 0 0)), some (gi (xs.length : Int)), some (gi (ys.length : Int)), some (gi (i + 1)), some (gi (j + 0)), some (gi (dd xs ys i j)), some (gi 0), some (gi 1)]) rfl ?_
                        refine gX_goto (tgt := 53) dX12_align_259 (by decide) ?_
                        by_cases hfz : False
                        · exact hfz.elim
                        · first
                          | (exfalso; omega)
                          | (have ad : alg (xs.drop i.toNat) (ys.drop j.toNat) j = -1 :: alg (xs.drop (i + 1).toNat) (ys.drop j.toNat) j := by
                               by_cases ej : j < ys.length
                               · rw [alg_st (by omega) (by omega) (by omega) ej, if_neg (by first | omega | (intro z; omega)), if_pos (by omega)]
                               · exact alg_rt (by omega) (by omega) (by omega) j
                             rw [ad] at he3
                             refine ih (i + 1) (j + 0) _ _ _ (pre ++ [-1]) _ _ _ (by omega) (by omega) (by omega) (by omega) (by omega) (by rw [List.length_append]; show pre.length + 1 = _; omega) (by rw [← he3, List.append_assoc, show j + 0 = j by omega]; rfl) (beA hl3 hp3) (fun k k0 k1 => ?_) (fun x x1 x2 x3 => by rw [gup_ne x2]; exact hf3 x x1 x2 x3) (by rw [gup_ne (by omega)]; exact h813)
                             rw [gup_ne (by omega), hu3 k k0 k1]
                             exact (memA (by omega)).symm
                             )
                  · refine gX_iload dX12_align_93 rfl ?_
                    refine gX_iload dX12_align_95 rfl ?_
                    refine gX_icmpge (tgt := 137) dX12_align_97 (by decide) (fun m96 => ?_) (fun m96 => ?_)
                    · refine gX_iconst dX12_align_137 ⟨by decide, by decide⟩ ?_
                      refine gX_istore dX12_align_138 (show (9 : Nat) < 11 from by decide) (ls2 := [some (ga 775), some (gi a), some (gi b), some (gi (dd xs ys 0 0)), some (gi (xs.length : Int)), some (gi (ys.length : Int)), some (gi i), some (gi j), some (gi (dd xs ys i j)), some (gi 0), j10]) rfl ?_
                      refine gX_iload dX12_align_140 rfl ?_
                      refine gX_ifne (tgt := 178) dX12_align_142 (by decide) (fun m97 => by exfalso; omega) (fun m97 => ?_)
                      refine gX_iload dX12_align_145 rfl ?_
                      refine gX_iload dX12_align_147 rfl ?_
                      refine gX_icmpge (tgt := 178) dX12_align_149 (by decide) (fun m98 => ?_) (fun m98 => ?_)
                      · refine gX_iconst dX12_align_178 ⟨by decide, by decide⟩ ?_
                        refine gX_istore dX12_align_179 (show (10 : Nat) < 11 from by decide) (ls2 := [some (ga 775), some (gi a), some (gi b), some (gi (dd xs ys 0 0)), some (gi (xs.length : Int)), some (gi (ys.length : Int)), some (gi i), some (gi j), some (gi (dd xs ys i j)), some (gi 0), some (gi 0)]) rfl ?_
                        refine gX_iload dX12_align_181 rfl ?_
                        refine gX_ifeq (tgt := 206) dX12_align_183 (by decide) (fun m99 => ?_) (fun m99 => by exfalso; omega)
                        refine gX_iload dX12_align_206 rfl ?_
                        refine gX_ifeq (tgt := 219) dX12_align_208 (by decide) (fun m100 => ?_) (fun m100 => by exfalso; omega)
                        refine gX_iload dX12_align_219 rfl ?_
                        refine gX_iload dX12_align_221 rfl ?_
                        refine gX_ifne (tgt := 231) dX12_align_223 (by decide) (fun m101 => by exfalso; omega) (fun m101 => ?_)
                        refine gX_iload dX12_align_226 rfl ?_
                        refine gX_ifeq (tgt := 235) dX12_align_228 (by decide) (fun m102 => ?_) (fun m102 => by exfalso; omega)
                        refine gX_iconst dX12_align_235 ⟨by decide, by decide⟩ ?_
                        refine gX_iadd dX12_align_236 ⟨by omega, by omega⟩ ?_
                        refine gX_istore dX12_align_237 (show (6 : Nat) < 11 from by decide) (ls2 := [some (ga 775), some (gi a), some (gi b), some (gi (dd xs ys 0 0)), some (gi (xs.length : Int)), some (gi (ys.length : Int)), some (gi (i + 0)), some (gi j), some (gi (dd xs ys i j)), some (gi 0), some (gi 0)]) rfl ?_
                        refine gX_iload dX12_align_239 rfl ?_
                        refine gX_iload dX12_align_241 rfl ?_
                        refine gX_ifne (tgt := 251) dX12_align_243 (by decide) (fun m103 => by exfalso; omega) (fun m103 => ?_)
                        refine gX_iload dX12_align_246 rfl ?_
                        refine gX_ifne (tgt := 255) dX12_align_248 (by decide) (fun m104 => by exfalso; omega) (fun m104 => ?_)
                        refine gX_iconst dX12_align_251 ⟨by decide, by decide⟩ ?_
                        refine gX_goto (tgt := 256) dX12_align_252 (by decide) ?_
                        refine gX_iadd dX12_align_256 ⟨by omega, by omega⟩ ?_
                        refine gX_istore dX12_align_257 (show (7 : Nat) < 11 from by decide) (ls2 := [some (ga 775), some (gi a), some (gi b), some (gi (dd xs ys 0 0)), some (gi (xs.length : Int)), some (gi (ys.length : Int)), some (gi (i + 0)), some (gi (j + 1)), some (gi (dd xs ys i j)), some (gi 0), some (gi 0)]) rfl ?_
                        refine gX_goto (tgt := 53) dX12_align_259 (by decide) ?_
                        by_cases hfz : False
                        · exact hfz.elim
                        · first
                          | (exfalso; omega)
                          | (have ej9 : j < ys.length := Decidable.byContradiction fun z => by
                               have d1 := dd_right (xs := xs) (ys := ys) (i := i) (j := j) (by omega) (by omega) (by omega)
                               have d2 := dd_right (xs := xs) (ys := ys) (i := i + 1) (j := j) (by omega) (by omega) (by omega)
                               omega
                             have ad : alg (xs.drop i.toNat) (ys.drop j.toNat) j = alg (xs.drop i.toNat) (ys.drop (j + 1).toNat) (j + 1) := by
                               by_cases ei : i < xs.length
                               · by_cases ej : j < ys.length
                                 · rw [alg_st (by omega) ei (by omega) ej, if_neg (by first | omega | (intro z; omega)), if_neg (by first | omega | (intro z; omega))]
                                 · exfalso; have := dd_right (xs := xs) (ys := ys) (i := i) (j := j) (by omega) (by omega) (by omega); have := dd_right (xs := xs) (ys := ys) (i := i + 1) (j := j) (by omega) (by omega) (by omega); omega
                               · rw [alg_tp (by omega), alg_tp (by omega)]
                             rw [ad] at he3
                             exact ih (i + 0) (j + 1) _ _ _ pre V3 _ _ (by omega) (by omega) (by omega) (by omega) (by omega) (by omega) (by rw [show i + 0 = i by omega]; exact he3) (fun k k0 k1 => hp3 k k0 (by omega)) hu3 hf3 h813
                             )
                      · have c2 : V3 813 (41 * (i + 1) + j) = dd xs ys (i + 1) j := by rw [h813]; exact hc1 (i + 1) j (by omega) (by omega) (by omega) (by omega)
                        have b2 := dd_bd hx40 hy40 (i + 1) j
                        refine gX_iload dX12_align_152 rfl ?_
                        refine gX_aloadn dX12_align_154 rfl ?_
                        refine gX_gR 57 dX12_align_155 fdX12_126 rfl rfl hM.1 (mR57 hM) ?_
                        refine gX_bipush dX12_align_158 (by decide) ⟨by decide, by decide⟩ ?_
                        refine gX_iload dX12_align_160 rfl ?_
                        refine gX_iconst dX12_align_162 ⟨by decide, by decide⟩ ?_
                        refine gX_iadd dX12_align_163 ⟨by omega, by omega⟩ ?_
                        refine gX_imul dX12_align_164 ⟨by omega, by omega⟩ ?_
                        refine gX_iload dX12_align_165 rfl ?_
                        refine gX_iadd dX12_align_167 ⟨by omega, by omega⟩ ?_
                        refine gX_iald dX12_align_168 (mA57 hM) (by omega) (by omega) ?_
                        rw [c2]
                        refine gX_iconst dX12_align_169 ⟨by decide, by decide⟩ ?_
                        refine gX_iadd dX12_align_170 ⟨by omega, by omega⟩ ?_
                        refine gX_icmpne (tgt := 178) dX12_align_171 (by decide) (fun m105 => ?_) (fun m105 => ?_)
                        · refine gX_iconst dX12_align_178 ⟨by decide, by decide⟩ ?_
                          refine gX_istore dX12_align_179 (show (10 : Nat) < 11 from by decide) (ls2 := [some (ga 775), some (gi a), some (gi b), some (gi (dd xs ys 0 0)), some (gi (xs.length : Int)), some (gi (ys.length : Int)), some (gi i), some (gi j), some (gi (dd xs ys i j)), some (gi 0), some (gi 0)]) rfl ?_
                          refine gX_iload dX12_align_181 rfl ?_
                          refine gX_ifeq (tgt := 206) dX12_align_183 (by decide) (fun m106 => ?_) (fun m106 => by exfalso; omega)
                          refine gX_iload dX12_align_206 rfl ?_
                          refine gX_ifeq (tgt := 219) dX12_align_208 (by decide) (fun m107 => ?_) (fun m107 => by exfalso; omega)
                          refine gX_iload dX12_align_219 rfl ?_
                          refine gX_iload dX12_align_221 rfl ?_
                          refine gX_ifne (tgt := 231) dX12_align_223 (by decide) (fun m108 => by exfalso; omega) (fun m108 => ?_)
                          refine gX_iload dX12_align_226 rfl ?_
                          refine gX_ifeq (tgt := 235) dX12_align_228 (by decide) (fun m109 => ?_) (fun m109 => by exfalso; omega)
                          refine gX_iconst dX12_align_235 ⟨by decide, by decide⟩ ?_
                          refine gX_iadd dX12_align_236 ⟨by omega, by omega⟩ ?_
                          refine gX_istore dX12_align_237 (show (6 : Nat) < 11 from by decide) (ls2 := [some (ga 775), some (gi a), some (gi b), some (gi (dd xs ys 0 0)), some (gi (xs.length : Int)), some (gi (ys.length : Int)), some (gi (i + 0)), some (gi j), some (gi (dd xs ys i j)), some (gi 0), some (gi 0)]) rfl ?_
                          refine gX_iload dX12_align_239 rfl ?_
                          refine gX_iload dX12_align_241 rfl ?_
                          refine gX_ifne (tgt := 251) dX12_align_243 (by decide) (fun m110 => by exfalso; omega) (fun m110 => ?_)
                          refine gX_iload dX12_align_246 rfl ?_
                          refine gX_ifne (tgt := 255) dX12_align_248 (by decide) (fun m111 => by exfalso; omega) (fun m111 => ?_)
                          refine gX_iconst dX12_align_251 ⟨by decide, by decide⟩ ?_
                          refine gX_goto (tgt := 256) dX12_align_252 (by decide) ?_
                          refine gX_iadd dX12_align_256 ⟨by omega, by omega⟩ ?_
                          refine gX_istore dX12_align_257 (show (7 : Nat) < 11 from by decide) (ls2 := [some (ga 775), some (gi a), some (gi b), some (gi (dd xs ys 0 0)), some (gi (xs.length : Int)), some (gi (ys.length : Int)), some (gi (i + 0)), some (gi (j + 1)), some (gi (dd xs ys i j)), some (gi 0), some (gi 0)]) rfl ?_
                          refine gX_goto (tgt := 53) dX12_align_259 (by decide) ?_
                          by_cases hfz : False
                          · exact hfz.elim
                          · first
                            | (exfalso; omega)
                            | (have ej9 : j < ys.length := Decidable.byContradiction fun z => by
                                 have d1 := dd_right (xs := xs) (ys := ys) (i := i) (j := j) (by omega) (by omega) (by omega)
                                 have d2 := dd_right (xs := xs) (ys := ys) (i := i + 1) (j := j) (by omega) (by omega) (by omega)
                                 omega
                               have ad : alg (xs.drop i.toNat) (ys.drop j.toNat) j = alg (xs.drop i.toNat) (ys.drop (j + 1).toNat) (j + 1) := by
                                 by_cases ei : i < xs.length
                                 · by_cases ej : j < ys.length
                                   · rw [alg_st (by omega) ei (by omega) ej, if_neg (by first | omega | (intro z; omega)), if_neg (by first | omega | (intro z; omega))]
                                   · exfalso; have := dd_right (xs := xs) (ys := ys) (i := i) (j := j) (by omega) (by omega) (by omega); have := dd_right (xs := xs) (ys := ys) (i := i + 1) (j := j) (by omega) (by omega) (by omega); omega
                                 · rw [alg_tp (by omega), alg_tp (by omega)]
                               rw [ad] at he3
                               exact ih (i + 0) (j + 1) _ _ _ pre V3 _ _ (by omega) (by omega) (by omega) (by omega) (by omega) (by omega) (by rw [show i + 0 = i by omega]; exact he3) (fun k k0 k1 => hp3 k k0 (by omega)) hu3 hf3 h813
                               )
                        · refine gX_iconst dX12_align_174 ⟨by decide, by decide⟩ ?_
                          refine gX_goto (tgt := 179) dX12_align_175 (by decide) ?_
                          refine gX_istore dX12_align_179 (show (10 : Nat) < 11 from by decide) (ls2 := [some (ga 775), some (gi a), some (gi b), some (gi (dd xs ys 0 0)), some (gi (xs.length : Int)), some (gi (ys.length : Int)), some (gi i), some (gi j), some (gi (dd xs ys i j)), some (gi 0), some (gi 1)]) rfl ?_
                          refine gX_iload dX12_align_181 rfl ?_
                          refine gX_ifeq (tgt := 206) dX12_align_183 (by decide) (fun m112 => ?_) (fun m112 => by exfalso; omega)
                          refine gX_iload dX12_align_206 rfl ?_
                          refine gX_ifeq (tgt := 219) dX12_align_208 (by decide) (fun m113 => by exfalso; omega) (fun m113 => ?_)
                          refine gX_aloadn dX12_align_211 rfl ?_
                          refine gX_gR 58 dX12_align_212 fdX12_129 rfl rfl hM.1 (mR58 hM) ?_
                          refine gX_iload dX12_align_215 rfl ?_
                          refine gX_iconst dX12_align_217 ⟨by decide, by decide⟩ ?_
                          refine gX_iast dX12_align_218 (mA58 hM) (by omega) (by omega) ?_
                          refine gX_iload dX12_align_219 rfl ?_
                          refine gX_iload dX12_align_221 rfl ?_
                          refine gX_ifne (tgt := 231) dX12_align_223 (by decide) (fun m114 => by exfalso; omega) (fun m114 => ?_)
                          refine gX_iload dX12_align_226 rfl ?_
                          refine gX_ifeq (tgt := 235) dX12_align_228 (by decide) (fun m115 => by exfalso; omega) (fun m115 => ?_)
                          refine gX_iconst dX12_align_231 ⟨by decide, by decide⟩ ?_
                          refine gX_goto (tgt := 236) dX12_align_232 (by decide) ?_
                          refine gX_iadd dX12_align_236 ⟨by omega, by omega⟩ ?_
                          refine gX_istore dX12_align_237 (show (6 : Nat) < 11 from by decide) (ls2 := [some (ga 775), some (gi a), some (gi b), some (gi (dd xs ys 0 0)), some (gi (xs.length : Int)), some (gi (ys.length : Int)), some (gi (i + 1)), some (gi j), some (gi (dd xs ys i j)), some (gi 0), some (gi 1)]) rfl ?_
                          refine gX_iload dX12_align_239 rfl ?_
                          refine gX_iload dX12_align_241 rfl ?_
                          refine gX_ifne (tgt := 251) dX12_align_243 (by decide) (fun m116 => by exfalso; omega) (fun m116 => ?_)
                          refine gX_iload dX12_align_246 rfl ?_
                          refine gX_ifne (tgt := 255) dX12_align_248 (by decide) (fun m117 => ?_) (fun m117 => by exfalso; omega)
                          refine gX_iconst dX12_align_255 ⟨by decide, by decide⟩ ?_
                          refine gX_iadd dX12_align_256 ⟨by omega, by omega⟩ ?_
                          refine gX_istore dX12_align_257 (show (7 : Nat) < 11 from by decide) (ls2 := [some (ga 775), some (gi a), some (gi b), some (gi (dd xs ys 0 0)), some (gi (xs.length : Int)), some (gi (ys.length : Int)), some (gi (i + 1)), some (gi (j + 0)), some (gi (dd xs ys i j)), some (gi 0), some (gi 1)]) rfl ?_
                          refine gX_goto (tgt := 53) dX12_align_259 (by decide) ?_
                          by_cases hfz : False
                          · exact hfz.elim
                          · first
                            | (exfalso; omega)
                            | (have ad : alg (xs.drop i.toNat) (ys.drop j.toNat) j = -1 :: alg (xs.drop (i + 1).toNat) (ys.drop j.toNat) j := by
                                 by_cases ej : j < ys.length
                                 · rw [alg_st (by omega) (by omega) (by omega) ej, if_neg (by first | omega | (intro z; omega)), if_pos (by omega)]
                                 · exact alg_rt (by omega) (by omega) (by omega) j
                               rw [ad] at he3
                               refine ih (i + 1) (j + 0) _ _ _ (pre ++ [-1]) _ _ _ (by omega) (by omega) (by omega) (by omega) (by omega) (by rw [List.length_append]; show pre.length + 1 = _; omega) (by rw [← he3, List.append_assoc, show j + 0 = j by omega]; rfl) (beA hl3 hp3) (fun k k0 k1 => ?_) (fun x x1 x2 x3 => by rw [gup_ne x2]; exact hf3 x x1 x2 x3) (by rw [gup_ne (by omega)]; exact h813)
                               rw [gup_ne (by omega), hu3 k k0 k1]
                               exact (memA (by omega)).symm
                               )
                    · have c1 : V3 813 (41 * (i + 1) + j + 1) = dd xs ys (i + 1) (j + 1) := by rw [h813, show 41 * (i + 1) + j + 1 = 41 * (i + 1) + (j + 1) by omega]; exact hc1 (i + 1) (j + 1) (by omega) (by omega) (by omega) (by omega)
                      have b1 := dd_bd hx40 hy40 (i + 1) (j + 1)
                      have b4 := pcM_bd xs ys i j
                      refine gX_iload dX12_align_100 rfl ?_
                      refine gX_aloadn dX12_align_102 rfl ?_
                      refine gX_gR 57 dX12_align_103 fdX12_126 rfl rfl hM.1 (mR57 hM) ?_
                      refine gX_bipush dX12_align_106 (by decide) ⟨by decide, by decide⟩ ?_
                      refine gX_iload dX12_align_108 rfl ?_
                      refine gX_iconst dX12_align_110 ⟨by decide, by decide⟩ ?_
                      refine gX_iadd dX12_align_111 ⟨by omega, by omega⟩ ?_
                      refine gX_imul dX12_align_112 ⟨by omega, by omega⟩ ?_
                      refine gX_iload dX12_align_113 rfl ?_
                      refine gX_iadd dX12_align_115 ⟨by omega, by omega⟩ ?_
                      refine gX_iconst dX12_align_116 ⟨by decide, by decide⟩ ?_
                      refine gX_iadd dX12_align_117 ⟨by omega, by omega⟩ ?_
                      refine gX_iald dX12_align_118 (mA57 hM) (by omega) (by omega) ?_
                      rw [c1]
                      refine gX_aloadn dX12_align_119 rfl ?_
                      refine gX_iloadn dX12_align_120 rfl ?_
                      refine gX_iload dX12_align_121 rfl ?_
                      refine gX_iloadn dX12_align_123 rfl ?_
                      refine gX_iload dX12_align_124 rfl ?_
                      refine gX_virt (J := iX12_pairCost) (av := [gi a, gi i, gi b, gi j]) (a := 775) (st := [gi (dd xs ys (i + 1) (j + 1)), gi (dd xs ys i j)]) dX12_align_126 lkX12_415 kX12_pairCost vX12_pairCost (gFit_m (by decide)) hM.1 rfl rfl (Nat.le_of_ble_eq_true rfl) (Nat.zero_le _) (Nat.zero_le _) rfl ?_
                      refine m_pairCost hM ha hb (hx.kept (hf3 776 (by omega) (by omega) (by omega)) (hf3 777 (by omega) (by omega) (by omega))) (hy.kept (hf3 776 (by omega) (by omega) (by omega)) (hf3 777 (by omega) (by omega) (by omega))) ⟨by omega, by omega⟩ ⟨by omega, by omega⟩ ?_
                      show gX l E _ 129 [some (ga 775), some (gi a), some (gi b), some (gi (dd xs ys 0 0)), some (gi (xs.length : Int)), some (gi (ys.length : Int)), some (gi i), some (gi j), some (gi (dd xs ys i j)), j9, j10] [gi (pcM xs ys i j), gi (dd xs ys (i + 1) (j + 1)), gi (dd xs ys i j)] (K, R, V3) _ _
                      refine gX_iadd dX12_align_129 ⟨by omega, by omega⟩ ?_
                      refine gX_icmpne (tgt := 137) dX12_align_130 (by decide) (fun m118 => ?_) (fun m118 => ?_)
                      · refine gX_iconst dX12_align_137 ⟨by decide, by decide⟩ ?_
                        refine gX_istore dX12_align_138 (show (9 : Nat) < 11 from by decide) (ls2 := [some (ga 775), some (gi a), some (gi b), some (gi (dd xs ys 0 0)), some (gi (xs.length : Int)), some (gi (ys.length : Int)), some (gi i), some (gi j), some (gi (dd xs ys i j)), some (gi 0), j10]) rfl ?_
                        refine gX_iload dX12_align_140 rfl ?_
                        refine gX_ifne (tgt := 178) dX12_align_142 (by decide) (fun m119 => by exfalso; omega) (fun m119 => ?_)
                        refine gX_iload dX12_align_145 rfl ?_
                        refine gX_iload dX12_align_147 rfl ?_
                        refine gX_icmpge (tgt := 178) dX12_align_149 (by decide) (fun m120 => ?_) (fun m120 => ?_)
                        · refine gX_iconst dX12_align_178 ⟨by decide, by decide⟩ ?_
                          refine gX_istore dX12_align_179 (show (10 : Nat) < 11 from by decide) (ls2 := [some (ga 775), some (gi a), some (gi b), some (gi (dd xs ys 0 0)), some (gi (xs.length : Int)), some (gi (ys.length : Int)), some (gi i), some (gi j), some (gi (dd xs ys i j)), some (gi 0), some (gi 0)]) rfl ?_
                          refine gX_iload dX12_align_181 rfl ?_
                          refine gX_ifeq (tgt := 206) dX12_align_183 (by decide) (fun m121 => ?_) (fun m121 => by exfalso; omega)
                          refine gX_iload dX12_align_206 rfl ?_
                          refine gX_ifeq (tgt := 219) dX12_align_208 (by decide) (fun m122 => ?_) (fun m122 => by exfalso; omega)
                          refine gX_iload dX12_align_219 rfl ?_
                          refine gX_iload dX12_align_221 rfl ?_
                          refine gX_ifne (tgt := 231) dX12_align_223 (by decide) (fun m123 => by exfalso; omega) (fun m123 => ?_)
                          refine gX_iload dX12_align_226 rfl ?_
                          refine gX_ifeq (tgt := 235) dX12_align_228 (by decide) (fun m124 => ?_) (fun m124 => by exfalso; omega)
                          refine gX_iconst dX12_align_235 ⟨by decide, by decide⟩ ?_
                          refine gX_iadd dX12_align_236 ⟨by omega, by omega⟩ ?_
                          refine gX_istore dX12_align_237 (show (6 : Nat) < 11 from by decide) (ls2 := [some (ga 775), some (gi a), some (gi b), some (gi (dd xs ys 0 0)), some (gi (xs.length : Int)), some (gi (ys.length : Int)), some (gi (i + 0)), some (gi j), some (gi (dd xs ys i j)), some (gi 0), some (gi 0)]) rfl ?_
                          refine gX_iload dX12_align_239 rfl ?_
                          refine gX_iload dX12_align_241 rfl ?_
                          refine gX_ifne (tgt := 251) dX12_align_243 (by decide) (fun m125 => by exfalso; omega) (fun m125 => ?_)
                          refine gX_iload dX12_align_246 rfl ?_
                          refine gX_ifne (tgt := 255) dX12_align_248 (by decide) (fun m126 => by exfalso; omega) (fun m126 => ?_)
                          refine gX_iconst dX12_align_251 ⟨by decide, by decide⟩ ?_
                          refine gX_goto (tgt := 256) dX12_align_252 (by decide) ?_
                          refine gX_iadd dX12_align_256 ⟨by omega, by omega⟩ ?_
                          refine gX_istore dX12_align_257 (show (7 : Nat) < 11 from by decide) (ls2 := [some (ga 775), some (gi a), some (gi b), some (gi (dd xs ys 0 0)), some (gi (xs.length : Int)), some (gi (ys.length : Int)), some (gi (i + 0)), some (gi (j + 1)), some (gi (dd xs ys i j)), some (gi 0), some (gi 0)]) rfl ?_
                          refine gX_goto (tgt := 53) dX12_align_259 (by decide) ?_
                          by_cases hfz : False
                          · exact hfz.elim
                          · first
                            | (exfalso; omega)
                            | (have ej9 : j < ys.length := Decidable.byContradiction fun z => by
                                 have d1 := dd_right (xs := xs) (ys := ys) (i := i) (j := j) (by omega) (by omega) (by omega)
                                 have d2 := dd_right (xs := xs) (ys := ys) (i := i + 1) (j := j) (by omega) (by omega) (by omega)
                                 omega
                               have ad : alg (xs.drop i.toNat) (ys.drop j.toNat) j = alg (xs.drop i.toNat) (ys.drop (j + 1).toNat) (j + 1) := by
                                 by_cases ei : i < xs.length
                                 · by_cases ej : j < ys.length
                                   · rw [alg_st (by omega) ei (by omega) ej, if_neg (by first | omega | (intro z; omega)), if_neg (by first | omega | (intro z; omega))]
                                   · exfalso; have := dd_right (xs := xs) (ys := ys) (i := i) (j := j) (by omega) (by omega) (by omega); have := dd_right (xs := xs) (ys := ys) (i := i + 1) (j := j) (by omega) (by omega) (by omega); omega
                                 · rw [alg_tp (by omega), alg_tp (by omega)]
                               rw [ad] at he3
                               exact ih (i + 0) (j + 1) _ _ _ pre V3 _ _ (by omega) (by omega) (by omega) (by omega) (by omega) (by omega) (by rw [show i + 0 = i by omega]; exact he3) (fun k k0 k1 => hp3 k k0 (by omega)) hu3 hf3 h813
                               )
                        · have c2 : V3 813 (41 * (i + 1) + j) = dd xs ys (i + 1) j := by rw [h813]; exact hc1 (i + 1) j (by omega) (by omega) (by omega) (by omega)
                          have b2 := dd_bd hx40 hy40 (i + 1) j
                          refine gX_iload dX12_align_152 rfl ?_
                          refine gX_aloadn dX12_align_154 rfl ?_
                          refine gX_gR 57 dX12_align_155 fdX12_126 rfl rfl hM.1 (mR57 hM) ?_
                          refine gX_bipush dX12_align_158 (by decide) ⟨by decide, by decide⟩ ?_
                          refine gX_iload dX12_align_160 rfl ?_
                          refine gX_iconst dX12_align_162 ⟨by decide, by decide⟩ ?_
                          refine gX_iadd dX12_align_163 ⟨by omega, by omega⟩ ?_
                          refine gX_imul dX12_align_164 ⟨by omega, by omega⟩ ?_
                          refine gX_iload dX12_align_165 rfl ?_
                          refine gX_iadd dX12_align_167 ⟨by omega, by omega⟩ ?_
                          refine gX_iald dX12_align_168 (mA57 hM) (by omega) (by omega) ?_
                          rw [c2]
                          refine gX_iconst dX12_align_169 ⟨by decide, by decide⟩ ?_
                          refine gX_iadd dX12_align_170 ⟨by omega, by omega⟩ ?_
                          refine gX_icmpne (tgt := 178) dX12_align_171 (by decide) (fun m127 => ?_) (fun m127 => ?_)
                          · refine gX_iconst dX12_align_178 ⟨by decide, by decide⟩ ?_
                            refine gX_istore dX12_align_179 (show (10 : Nat) < 11 from by decide) (ls2 := [some (ga 775), some (gi a), some (gi b), some (gi (dd xs ys 0 0)), some (gi (xs.length : Int)), some (gi (ys.length : Int)), some (gi i), some (gi j), some (gi (dd xs ys i j)), some (gi 0), some (gi 0)]) rfl ?_
                            refine gX_iload dX12_align_181 rfl ?_
                            refine gX_ifeq (tgt := 206) dX12_align_183 (by decide) (fun m128 => ?_) (fun m128 => by exfalso; omega)
                            refine gX_iload dX12_align_206 rfl ?_
                            refine gX_ifeq (tgt := 219) dX12_align_208 (by decide) (fun m129 => ?_) (fun m129 => by exfalso; omega)
                            refine gX_iload dX12_align_219 rfl ?_
                            refine gX_iload dX12_align_221 rfl ?_
                            refine gX_ifne (tgt := 231) dX12_align_223 (by decide) (fun m130 => by exfalso; omega) (fun m130 => ?_)
                            refine gX_iload dX12_align_226 rfl ?_
                            refine gX_ifeq (tgt := 235) dX12_align_228 (by decide) (fun m131 => ?_) (fun m131 => by exfalso; omega)
                            refine gX_iconst dX12_align_235 ⟨by decide, by decide⟩ ?_
                            refine gX_iadd dX12_align_236 ⟨by omega, by omega⟩ ?_
                            refine gX_istore dX12_align_237 (show (6 : Nat) < 11 from by decide) (ls2 := [some (ga 775), some (gi a), some (gi b), some (gi (dd xs ys 0 0)), some (gi (xs.length : Int)), some (gi (ys.length : Int)), some (gi (i + 0)), some (gi j), some (gi (dd xs ys i j)), some (gi 0), some (gi 0)]) rfl ?_
                            refine gX_iload dX12_align_239 rfl ?_
                            refine gX_iload dX12_align_241 rfl ?_
                            refine gX_ifne (tgt := 251) dX12_align_243 (by decide) (fun m132 => by exfalso; omega) (fun m132 => ?_)
                            refine gX_iload dX12_align_246 rfl ?_
                            refine gX_ifne (tgt := 255) dX12_align_248 (by decide) (fun m133 => by exfalso; omega) (fun m133 => ?_)
                            refine gX_iconst dX12_align_251 ⟨by decide, by decide⟩ ?_
                            refine gX_goto (tgt := 256) dX12_align_252 (by decide) ?_
                            refine gX_iadd dX12_align_256 ⟨by omega, by omega⟩ ?_
                            refine gX_istore dX12_align_257 (show (7 : Nat) < 11 from by decide) (ls2 := [some (ga 775), some (gi a), some (gi b), some (gi (dd xs ys 0 0)), some (gi (xs.length : Int)), some (gi (ys.length : Int)), some (gi (i + 0)), some (gi (j + 1)), some (gi (dd xs ys i j)), some (gi 0), some (gi 0)]) rfl ?_
                            refine gX_goto (tgt := 53) dX12_align_259 (by decide) ?_
                            by_cases hfz : False
                            · exact hfz.elim
                            · first
                              | (exfalso; omega)
                              | (have ej9 : j < ys.length := Decidable.byContradiction fun z => by
                                   have d1 := dd_right (xs := xs) (ys := ys) (i := i) (j := j) (by omega) (by omega) (by omega)
                                   have d2 := dd_right (xs := xs) (ys := ys) (i := i + 1) (j := j) (by omega) (by omega) (by omega)
                                   omega
                                 have ad : alg (xs.drop i.toNat) (ys.drop j.toNat) j = alg (xs.drop i.toNat) (ys.drop (j + 1).toNat) (j + 1) := by
                                   by_cases ei : i < xs.length
                                   · by_cases ej : j < ys.length
                                     · rw [alg_st (by omega) ei (by omega) ej, if_neg (by first | omega | (intro z; omega)), if_neg (by first | omega | (intro z; omega))]
                                     · exfalso; have := dd_right (xs := xs) (ys := ys) (i := i) (j := j) (by omega) (by omega) (by omega); have := dd_right (xs := xs) (ys := ys) (i := i + 1) (j := j) (by omega) (by omega) (by omega); omega
                                   · rw [alg_tp (by omega), alg_tp (by omega)]
                                 rw [ad] at he3
                                 exact ih (i + 0) (j + 1) _ _ _ pre V3 _ _ (by omega) (by omega) (by omega) (by omega) (by omega) (by omega) (by rw [show i + 0 = i by omega]; exact he3) (fun k k0 k1 => hp3 k k0 (by omega)) hu3 hf3 h813
                                 )
                          · refine gX_iconst dX12_align_174 ⟨by decide, by decide⟩ ?_
                            refine gX_goto (tgt := 179) dX12_align_175 (by decide) ?_
                            refine gX_istore dX12_align_179 (show (10 : Nat) < 11 from by decide) (ls2 := [some (ga 775), some (gi a), some (gi b), some (gi (dd xs ys 0 0)), some (gi (xs.length : Int)), some (gi (ys.length : Int)), some (gi i), some (gi j), some (gi (dd xs ys i j)), some (gi 0), some (gi 1)]) rfl ?_
                            refine gX_iload dX12_align_181 rfl ?_
                            refine gX_ifeq (tgt := 206) dX12_align_183 (by decide) (fun m134 => ?_) (fun m134 => by exfalso; omega)
                            refine gX_iload dX12_align_206 rfl ?_
                            refine gX_ifeq (tgt := 219) dX12_align_208 (by decide) (fun m135 => by exfalso; omega) (fun m135 => ?_)
                            refine gX_aloadn dX12_align_211 rfl ?_
                            refine gX_gR 58 dX12_align_212 fdX12_129 rfl rfl hM.1 (mR58 hM) ?_
                            refine gX_iload dX12_align_215 rfl ?_
                            refine gX_iconst dX12_align_217 ⟨by decide, by decide⟩ ?_
                            refine gX_iast dX12_align_218 (mA58 hM) (by omega) (by omega) ?_
                            refine gX_iload dX12_align_219 rfl ?_
                            refine gX_iload dX12_align_221 rfl ?_
                            refine gX_ifne (tgt := 231) dX12_align_223 (by decide) (fun m136 => by exfalso; omega) (fun m136 => ?_)
                            refine gX_iload dX12_align_226 rfl ?_
                            refine gX_ifeq (tgt := 235) dX12_align_228 (by decide) (fun m137 => by exfalso; omega) (fun m137 => ?_)
                            refine gX_iconst dX12_align_231 ⟨by decide, by decide⟩ ?_
                            refine gX_goto (tgt := 236) dX12_align_232 (by decide) ?_
                            refine gX_iadd dX12_align_236 ⟨by omega, by omega⟩ ?_
                            refine gX_istore dX12_align_237 (show (6 : Nat) < 11 from by decide) (ls2 := [some (ga 775), some (gi a), some (gi b), some (gi (dd xs ys 0 0)), some (gi (xs.length : Int)), some (gi (ys.length : Int)), some (gi (i + 1)), some (gi j), some (gi (dd xs ys i j)), some (gi 0), some (gi 1)]) rfl ?_
                            refine gX_iload dX12_align_239 rfl ?_
                            refine gX_iload dX12_align_241 rfl ?_
                            refine gX_ifne (tgt := 251) dX12_align_243 (by decide) (fun m138 => by exfalso; omega) (fun m138 => ?_)
                            refine gX_iload dX12_align_246 rfl ?_
                            refine gX_ifne (tgt := 255) dX12_align_248 (by decide) (fun m139 => ?_) (fun m139 => by exfalso; omega)
                            refine gX_iconst dX12_align_255 ⟨by decide, by decide⟩ ?_
                            refine gX_iadd dX12_align_256 ⟨by omega, by omega⟩ ?_
                            refine gX_istore dX12_align_257 (show (7 : Nat) < 11 from by decide) (ls2 := [some (ga 775), some (gi a), some (gi b), some (gi (dd xs ys 0 0)), some (gi (xs.length : Int)), some (gi (ys.length : Int)), some (gi (i + 1)), some (gi (j + 0)), some (gi (dd xs ys i j)), some (gi 0), some (gi 1)]) rfl ?_
                            refine gX_goto (tgt := 53) dX12_align_259 (by decide) ?_
                            by_cases hfz : False
                            · exact hfz.elim
                            · first
                              | (exfalso; omega)
                              | (have ad : alg (xs.drop i.toNat) (ys.drop j.toNat) j = -1 :: alg (xs.drop (i + 1).toNat) (ys.drop j.toNat) j := by
                                   by_cases ej : j < ys.length
                                   · rw [alg_st (by omega) (by omega) (by omega) ej, if_neg (by first | omega | (intro z; omega)), if_pos (by omega)]
                                   · exact alg_rt (by omega) (by omega) (by omega) j
                                 rw [ad] at he3
                                 refine ih (i + 1) (j + 0) _ _ _ (pre ++ [-1]) _ _ _ (by omega) (by omega) (by omega) (by omega) (by omega) (by rw [List.length_append]; show pre.length + 1 = _; omega) (by rw [← he3, List.append_assoc, show j + 0 = j by omega]; rfl) (beA hl3 hp3) (fun k k0 k1 => ?_) (fun x x1 x2 x3 => by rw [gup_ne x2]; exact hf3 x x1 x2 x3) (by rw [gup_ne (by omega)]; exact h813)
                                 rw [gup_ne (by omega), hu3 k k0 k1]
                                 exact (memA (by omega)).symm
                                 )
                      · refine gX_iconst dX12_align_133 ⟨by decide, by decide⟩ ?_
                        refine gX_goto (tgt := 138) dX12_align_134 (by decide) ?_
                        refine gX_istore dX12_align_138 (show (9 : Nat) < 11 from by decide) (ls2 := [some (ga 775), some (gi a), some (gi b), some (gi (dd xs ys 0 0)), some (gi (xs.length : Int)), some (gi (ys.length : Int)), some (gi i), some (gi j), some (gi (dd xs ys i j)), some (gi 1), j10]) rfl ?_
                        refine gX_iload dX12_align_140 rfl ?_
                        refine gX_ifne (tgt := 178) dX12_align_142 (by decide) (fun m140 => ?_) (fun m140 => by exfalso; omega)
                        refine gX_iconst dX12_align_178 ⟨by decide, by decide⟩ ?_
                        refine gX_istore dX12_align_179 (show (10 : Nat) < 11 from by decide) (ls2 := [some (ga 775), some (gi a), some (gi b), some (gi (dd xs ys 0 0)), some (gi (xs.length : Int)), some (gi (ys.length : Int)), some (gi i), some (gi j), some (gi (dd xs ys i j)), some (gi 1), some (gi 0)]) rfl ?_
                        refine gX_iload dX12_align_181 rfl ?_
                        refine gX_ifeq (tgt := 206) dX12_align_183 (by decide) (fun m141 => by exfalso; omega) (fun m141 => ?_)
                        refine gX_aloadn dX12_align_186 rfl ?_
                        refine gX_gR 58 dX12_align_187 fdX12_129 rfl rfl hM.1 (mR58 hM) ?_
                        refine gX_iload dX12_align_190 rfl ?_
                        refine gX_iload dX12_align_192 rfl ?_
                        refine gX_iast dX12_align_194 (mA58 hM) (by omega) (by omega) ?_
                        refine gX_aloadn dX12_align_195 rfl ?_
                        refine gX_gR 59 dX12_align_196 fdX12_132 rfl rfl hM.1 (mR59 hM) ?_
                        refine gX_iload dX12_align_199 rfl ?_
                        refine gX_iconst dX12_align_201 ⟨by decide, by decide⟩ ?_
                        refine gX_zast dX12_align_202 (Or.inl rfl) (mA59 hM) (by omega) (by omega) ?_
                        refine gX_goto (tgt := 219) dX12_align_203 (by decide) ?_
                        refine gX_iload dX12_align_219 rfl ?_
                        refine gX_iload dX12_align_221 rfl ?_
                        refine gX_ifne (tgt := 231) dX12_align_223 (by decide) (fun m142 => ?_) (fun m142 => by exfalso; omega)
                        refine gX_iconst dX12_align_231 ⟨by decide, by decide⟩ ?_
                        refine gX_goto (tgt := 236) dX12_align_232 (by decide) ?_
                        refine gX_iadd dX12_align_236 ⟨by omega, by omega⟩ ?_
                        refine gX_istore dX12_align_237 (show (6 : Nat) < 11 from by decide) (ls2 := [some (ga 775), some (gi a), some (gi b), some (gi (dd xs ys 0 0)), some (gi (xs.length : Int)), some (gi (ys.length : Int)), some (gi (i + 1)), some (gi j), some (gi (dd xs ys i j)), some (gi 1), some (gi 0)]) rfl ?_
                        refine gX_iload dX12_align_239 rfl ?_
                        refine gX_iload dX12_align_241 rfl ?_
                        refine gX_ifne (tgt := 251) dX12_align_243 (by decide) (fun m143 => ?_) (fun m143 => by exfalso; omega)
                        refine gX_iconst dX12_align_251 ⟨by decide, by decide⟩ ?_
                        refine gX_goto (tgt := 256) dX12_align_252 (by decide) ?_
                        refine gX_iadd dX12_align_256 ⟨by omega, by omega⟩ ?_
                        refine gX_istore dX12_align_257 (show (7 : Nat) < 11 from by decide) (ls2 := [some (ga 775), some (gi a), some (gi b), some (gi (dd xs ys 0 0)), some (gi (xs.length : Int)), some (gi (ys.length : Int)), some (gi (i + 1)), some (gi (j + 1)), some (gi (dd xs ys i j)), some (gi 1), some (gi 0)]) rfl ?_
                        refine gX_goto (tgt := 53) dX12_align_259 (by decide) ?_
                        by_cases hfz : False
                        · exact hfz.elim
                        · first
                          | (exfalso; omega)
                          | (have ad := alg_st (xs := xs) (ys := ys) (i := i) (j := j) (by omega) (by omega) (by omega) (by omega) j
                             rw [if_pos (by omega)] at ad
                             rw [ad] at he3
                             refine ih (i + 1) (j + 1) _ _ _ (pre ++ [j]) _ _ _ (by omega) (by omega) (by omega) (by omega) (by omega) (by rw [List.length_append]; show pre.length + 1 = _; omega) (by rw [← he3, List.append_assoc]; rfl) (fun k k0 k1 => ?_) (fun k k0 k1 => ?_) (fun x x1 x2 x3 => by rw [gup_ne x3, gup_ne x2]; exact hf3 x x1 x2 x3) (by rw [gup_ne (by omega), gup_ne (by omega)]; exact h813)
                             · rw [gup_ne (by omega)]
                               exact beA hl3 hp3 k k0 k1
                             · by_cases ek : k = j
                               · subst ek
                                 rw [if_pos (List.mem_append_right _ (List.mem_singleton.mpr rfl))]
                                 exact gup_s
                               · rw [gup_k ek, gup_ne (by omega), hu3 k k0 k1]
                                 exact (memA ek).symm
                             )
        refine lp (xs.length + ys.length + 1) 0 0 _ _ _ [] V2 _ _ (by omega) (by omega) (by omega) (by omega) (by omega) rfl rfl (fun k k0 k1 => by omega) (fun k k0 k1 => by rw [hp2 k k0 (by omega)]; rfl) (fun x x1 x2 x3 => by rw [hz2 x x3]; exact hf1 x x1) (hz2 813 (by omega))
      · refine gX_aloadn dX12_align_33 rfl ?_
        refine gX_gR 59 dX12_align_34 fdX12_132 rfl rfl hM.1 (mR59 hM) ?_
        refine gX_iload dX12_align_37 rfl ?_
        refine gX_iconst dX12_align_39 ⟨by decide, by decide⟩ ?_
        refine gX_zast dX12_align_40 (Or.inr rfl) (mA59 hM) (by omega) (by omega) ?_
        refine gX_iinc dX12_align_41 rfl (show (6 : Nat) < 11 from by decide) ⟨by omega, by omega⟩ (ls2 := [some (ga 775), some (gi a), some (gi b), some (gi (dd xs ys 0 0)), some (gi (xs.length : Int)), some (gi (ys.length : Int)), some (gi (j + 1)), none, none, none, none]) rfl ?_
        refine gX_goto (tgt := 26) dX12_align_44 (by decide) ?_
        refine ih (j + 1) _ _ _ (by omega) (by omega) (by omega) (fun k k0 k1 => ?_) (fun x x1 => by rw [gup_ne x1]; exact hz2 x x1)
        by_cases ek : k = j
        · subst ek; exact gup_s
        · rw [gup_k ek]; exact hp2 k k0 (by omega)
  exact l1 (ys.length + 1) 0 V1 _ _ (by omega) (by omega) (by omega) (fun k k0 k1 => by omega) (fun _ _ => rfl)
set_option maxRecDepth 4000 in
theorem m_distance (hM : mdK K R) (hS : mdIs V S) (hQ : ∀ V', qFr V V' → Q (some (gi (aDist S a b))) (K, R, V')) : gC l E (d + 3) iX12_distance [ga 775, gi a, gi b] (K, R, V) Q := by
  refine gC_of kX12_distance (ls := [some (ga 775), some (gi a), some (gi b)]) rfl (Nat.le_of_ble_eq_true rfl) ?_
  have hn0 := hS.1
  have hn1 := hS.2.1
  refine gX_aloadn dX12_distance_0 rfl ?_
  refine gX_iloadn dX12_distance_1 rfl ?_
  refine gX_virt (J := iX12_isBook) (av := [gi a]) (a := 775) (st := []) dX12_distance_2 lkX12_371 kX12_isBook vX12_isBook (gFit_m (by decide)) hM.1 rfl rfl (Nat.le_of_ble_eq_true rfl) (Nat.zero_le _) (Nat.zero_le _) rfl ?_
  refine m_isBook hM hS.1 hS.2.1 ?_
  show gX l E _ 5 [some (ga 775), some (gi a), some (gi b)] [gi (b2i (inR a 0 ((S.1.length : Int) - 1)))] (K, R, V) _ _
  refine gX_ifeq (tgt := 25) dX12_distance_5 (by decide) (fun w1 => ?_) (fun w1 => ?_)
  · have w1 := inR_0 w1
    refine gX_sipush dX12_distance_25 (by decide) ⟨by decide, by decide⟩ ?_
    refine gX_iret dX12_distance_28 (Or.inl rfl) ?_
    have ea : aDist S a b = -1001 := by
      unfold aDist
      rw [if_neg (by omega)]
    rw [ea] at hQ
    exact hQ V qFr.rf
  · have w1 := inR_1 w1
    refine gX_aloadn dX12_distance_8 rfl ?_
    refine gX_iloadn dX12_distance_9 rfl ?_
    refine gX_virt (J := iX12_isBook) (av := [gi b]) (a := 775) (st := []) dX12_distance_10 lkX12_371 kX12_isBook vX12_isBook (gFit_m (by decide)) hM.1 rfl rfl (Nat.le_of_ble_eq_true rfl) (Nat.zero_le _) (Nat.zero_le _) rfl ?_
    refine m_isBook hM hS.1 hS.2.1 ?_
    show gX l E _ 13 [some (ga 775), some (gi a), some (gi b)] [gi (b2i (inR b 0 ((S.1.length : Int) - 1)))] (K, R, V) _ _
    refine gX_ifeq (tgt := 25) dX12_distance_13 (by decide) (fun w2 => ?_) (fun w2 => ?_)
    · have w2 := inR_0 w2
      refine gX_sipush dX12_distance_25 (by decide) ⟨by decide, by decide⟩ ?_
      refine gX_iret dX12_distance_28 (Or.inl rfl) ?_
      have ea : aDist S a b = -1001 := by
        unfold aDist
        rw [if_neg (by omega)]
      rw [ea] at hQ
      exact hQ V qFr.rf
    · have w2 := inR_1 w2
      have hr1 : 0 ≤ a ∧ a < S.1.length := ⟨by omega, by omega⟩
      have hr2 : 0 ≤ b ∧ b < S.1.length := ⟨by omega, by omega⟩
      have hk1 := (hS.2.2.2.1 a hr1.1 hr1.2).1.tx
      have hk2 := (hS.2.2.2.1 b hr2.1 hr2.2).1.tx
      rw [show (gbq S a).1 = gbX S a from rfl] at hk1
      rw [show (gbq S b).1 = gbX S b from rfl] at hk2
      refine gX_aloadn dX12_distance_16 rfl ?_
      refine gX_iloadn dX12_distance_17 rfl ?_
      refine gX_iloadn dX12_distance_18 rfl ?_
      refine gX_virt (J := iX12_least) (av := [gi a, gi b]) (a := 775) (st := []) dX12_distance_19 lkX12_419 kX12_least vX12_least (gFit_m (by decide)) hM.1 rfl rfl (Nat.le_of_ble_eq_true rfl) (Nat.zero_le _) (Nat.zero_le _) rfl ?_
      refine m_least hM ⟨by omega, by omega⟩ ⟨by omega, by omega⟩ hk1 hk2 (fun V1 hc1 hf1 => ?_)
      show gX l E _ 22 [some (ga 775), some (gi a), some (gi b)] [gi (dd (gbX S a) (gbX S b) 0 0)] (K, R, V1) _ _
      refine gX_goto (tgt := 28) dX12_distance_22 (by decide) ?_
      refine gX_iret dX12_distance_28 (Or.inl rfl) ?_
      have ea : aDist S a b = dd (gbX S a) (gbX S b) 0 0 := by
        unfold aDist
        rw [if_pos ⟨hr1, hr2⟩]
        rfl
      rw [ea] at hQ
      exact hQ V1 hf1.q
set_option maxRecDepth 4000 in
theorem m_beside (hM : mdK K R) (hS : mdIs V S) (hQ : ∀ V', qFr V V' → Q (some (gi (aBeside S a b i))) (K, R, V')) : gC l E (d + 4) iX12_beside [ga 775, gi a, gi b, gi i] (K, R, V) Q := by
  refine gC_of kX12_beside (ls := [some (ga 775), some (gi a), some (gi b), some (gi i)]) rfl (Nat.le_of_ble_eq_true rfl) ?_
  have hn0 := hS.1
  have hn1 := hS.2.1
  refine gX_aloadn dX12_beside_0 rfl ?_
  refine gX_iloadn dX12_beside_1 rfl ?_
  refine gX_virt (J := iX12_isBook) (av := [gi a]) (a := 775) (st := []) dX12_beside_2 lkX12_371 kX12_isBook vX12_isBook (gFit_m (by decide)) hM.1 rfl rfl (Nat.le_of_ble_eq_true rfl) (Nat.zero_le _) (Nat.zero_le _) rfl ?_
  refine m_isBook hM hS.1 hS.2.1 ?_
  show gX l E _ 5 [some (ga 775), some (gi a), some (gi b), some (gi i)] [gi (b2i (inR a 0 ((S.1.length : Int) - 1)))] (K, R, V) _ _
  refine gX_ifeq (tgt := 16) dX12_beside_5 (by decide) (fun w1 => ?_) (fun w1 => ?_)
  · have w1 := inR_0 w1
    refine gX_sipush dX12_beside_16 (by decide) ⟨by decide, by decide⟩ ?_
    refine gX_iret dX12_beside_19 (Or.inl rfl) ?_
    have ea : aBeside S a b i = -1001 := by
      unfold aBeside
      rw [if_neg (by omega)]
    rw [ea] at hQ
    exact hQ V qFr.rf
  · have w1 := inR_1 w1
    refine gX_aloadn dX12_beside_8 rfl ?_
    refine gX_iloadn dX12_beside_9 rfl ?_
    refine gX_virt (J := iX12_isBook) (av := [gi b]) (a := 775) (st := []) dX12_beside_10 lkX12_371 kX12_isBook vX12_isBook (gFit_m (by decide)) hM.1 rfl rfl (Nat.le_of_ble_eq_true rfl) (Nat.zero_le _) (Nat.zero_le _) rfl ?_
    refine m_isBook hM hS.1 hS.2.1 ?_
    show gX l E _ 13 [some (ga 775), some (gi a), some (gi b), some (gi i)] [gi (b2i (inR b 0 ((S.1.length : Int) - 1)))] (K, R, V) _ _
    refine gX_ifne (tgt := 20) dX12_beside_13 (by decide) (fun w2 => ?_) (fun w2 => ?_)
    · have w2 := inR_1 w2
      have hr1 : 0 ≤ a ∧ a < S.1.length := ⟨by omega, by omega⟩
      have hr2 : 0 ≤ b ∧ b < S.1.length := ⟨by omega, by omega⟩
      have hk1 := (hS.2.2.2.1 a hr1.1 hr1.2).1.tx
      have hk2 := (hS.2.2.2.1 b hr2.1 hr2.2).1.tx
      rw [show (gbq S a).1 = gbX S a from rfl] at hk1
      rw [show (gbq S b).1 = gbX S b from rfl] at hk2
      have hq40 := hk1.2.1
      refine gX_iloadn dX12_beside_20 rfl ?_
      refine gX_i2l dX12_beside_21 ?_
      refine gX_lconst (x := 0) dX12_beside_22 (by decide) ⟨by decide, by decide⟩ ?_
      refine gX_aloadn dX12_beside_23 rfl ?_
      refine gX_gR 1 dX12_beside_24 fdX12_7 rfl rfl hM.1 (mR1 hM) ?_
      refine gX_iloadn dX12_beside_27 rfl ?_
      refine gX_iald dX12_beside_28 (mA1 hM) (by omega) (by omega) ?_
      rw [hk1.1]
      refine gX_iconst dX12_beside_29 ⟨by decide, by decide⟩ ?_
      refine gX_isub dX12_beside_30 ⟨by omega, by omega⟩ ?_
      refine gX_i2l dX12_beside_31 ?_
      refine gX_stat (J := iX12_in) (av := [gl i, gl 0, gl (((gbX S a).length : Int) - 1)]) (st := []) dX12_beside_32 lkX12_154 kX12_in sX12_in (gFit_m (by decide)) rfl (Nat.le_of_ble_eq_true rfl) (Nat.zero_le _) (Nat.zero_le _) rfl ?_
      refine m_in ?_
      show gX l E _ 35 [some (ga 775), some (gi a), some (gi b), some (gi i)] [gi (b2i (inR i 0 (((gbX S a).length : Int) - 1)))] (K, R, V) _ _
      refine gX_ifne (tgt := 42) dX12_beside_35 (by decide) (fun w3 => ?_) (fun w3 => ?_)
      · have w3 := inR_1 w3
        refine gX_aloadn dX12_beside_42 rfl ?_
        refine gX_iloadn dX12_beside_43 rfl ?_
        refine gX_iloadn dX12_beside_44 rfl ?_
        refine gX_virt (J := iX12_align) (av := [gi a, gi b]) (a := 775) (st := []) dX12_beside_45 lkX12_422 kX12_align vX12_align (gFit_m (by decide)) hM.1 rfl rfl (Nat.le_of_ble_eq_true rfl) (Nat.zero_le _) (Nat.zero_le _) rfl ?_
        refine m_align hM ⟨by omega, by omega⟩ ⟨by omega, by omega⟩ hk1 hk2 (fun V1 hc1 hf1 => ?_)
        show gX l E _ 48 [some (ga 775), some (gi a), some (gi b), some (gi i)] [] (K, R, V1) _ _
        refine gX_aloadn dX12_beside_48 rfl ?_
        refine gX_gR 58 dX12_beside_49 fdX12_129 rfl rfl hM.1 (mR58 hM) ?_
        refine gX_iloadn dX12_beside_52 rfl ?_
        refine gX_iald dX12_beside_53 (mA58 hM) (by omega) (by omega) ?_
        rw [hc1.1 i (by omega) (by omega)]
        refine gX_iret dX12_beside_54 (Or.inl rfl) ?_
        have ea : aBeside S a b i = lat (alg (gbX S a) (gbX S b) 0) i := by
          unfold aBeside
          rw [if_pos ⟨hr1, hr2⟩, if_pos (by omega)]
        rw [ea] at hQ
        exact hQ V1 hf1.q
      · have w3 := inR_0 w3
        refine gX_sipush dX12_beside_38 (by decide) ⟨by decide, by decide⟩ ?_
        refine gX_iret dX12_beside_41 (Or.inl rfl) ?_
        have ea : aBeside S a b i = -1002 := by
          unfold aBeside
          rw [if_pos ⟨hr1, hr2⟩, if_neg (by omega)]
        rw [ea] at hQ
        exact hQ V qFr.rf
    · have w2 := inR_0 w2
      refine gX_sipush dX12_beside_16 (by decide) ⟨by decide, by decide⟩ ?_
      refine gX_iret dX12_beside_19 (Or.inl rfl) ?_
      have ea : aBeside S a b i = -1001 := by
        unfold aBeside
        rw [if_neg (by omega)]
      rw [ea] at hQ
      exact hQ V qFr.rf
end MD3
