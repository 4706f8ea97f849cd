/-! The reference: printing, steps of a walk. Written by wip/whole/tools/mk_md29.py. -/
/-- what is printed -/
def pI (V : Int → Int → Int) (out : pO) : Prop := V 775 55 = out.length ∧ ∀ (j : Nat) (x : Int), out[j]? = some x → V 811 j = x
def pfF (V V' : Int → Int → Int) : Prop := (∀ a, a ≠ 775 → a ≠ 811 → V' a = V a) ∧ ∀ k, k ≠ 55 → V' 775 k = V 775 k
theorem pfF.rf {V : Int → Int → Int} : pfF V V := ⟨fun _ _ _ => rfl, fun _ _ => rfl⟩
theorem pfF.trans {V V1 V2 : Int → Int → Int} (h : pfF V V1) (h2 : pfF V1 V2) : pfF V V2 := ⟨fun a a1 a2 => (h2.1 a a1 a2).trans (h.1 a a1 a2), fun k k1 => (h2.2 k k1).trans (h.2 k k1)⟩
theorem pfF.wl {V V' : Int → Int → Int} (h : pfF V V') : wlF V V' := ⟨fun a a1 a2 => h.1 a a1 (by omega), fun k k1 k2 k3 => h.2 k k3⟩
theorem pfF.ad {V : Int → Int → Int} {j n c : Int} : pfF V (gup (gup V 811 j c) 775 55 n) := ⟨fun a a1 a2 => by rw [gup_ne a1, gup_ne a2], fun k k1 => by rw [gup_c (Or.inr k1), gup_ne (by omega)]⟩
theorem ladd_i {n : Nat} {xs : List Int} {x : Int} (h : xs.length < n) : ladd n xs x = xs ++ [x] := if_pos h
theorem pI.ad {V : Int → Int → Int} {out : pO} {c : Int} (h : pI V out) (hl : out.length < 700) : pI (gup (gup V 811 out.length c) 775 55 (out.length + 1)) (ladd 700 out c) := by
  rw [ladd_i hl]
  refine ⟨by rw [List.length_append]; exact gup_s, fun j x hx => ?_⟩
  rw [gup_ne (by omega)]
  by_cases e : j = out.length
  · subst e
    rw [List.getElem?_append_right (Nat.le_refl _), Nat.sub_self] at hx
    cases hx
    exact gup_s
  · have hj : j < out.length := by
      rcases Nat.lt_or_ge j (out ++ [c]).length with z | z
      · rw [List.length_append] at z
        have : ([c] : List Int).length = 1 := rfl
        omega
      · rw [List.getElem?_eq_none z] at hx; cases hx
    rw [List.getElem?_append_left hj] at hx
    rw [gup_c (Or.inr (by omega))]
    exact h.2 j x hx
theorem ladd_l {n : Nat} {xs : List Int} {x : Int} : (ladd n xs x).length ≤ xs.length + 1 := by
  unfold ladd
  split
  · rw [List.length_append]; exact Nat.le_refl _
  · omega
theorem pI.lst {V : Int → Int → Int} {out : pO} (h : pI V out) (h0 : 0 < out.length) : V 811 (out.length - 1) = lat out (out.length - 1) := by
  have := h.2 (out.length - 1) _ (List.getElem?_eq_getElem (by omega))
  rw [show ((out.length - 1 : Nat) : Int) = (out.length : Int) - 1 by omega] at this
  rw [this, lat_in (by omega) (by omega)]
  congr 1
  omega
theorem prN1_l {o : pO} : (prN1 (ladd 700) o).length ≤ o.length + 1 := by
  unfold prN1
  split
  · exact ladd_l
  · omega
theorem prN2_l {v : Int} {o : pO} : (prN2 (ladd 700) v o).length ≤ o.length + 1 := by
  unfold prN2
  split
  · exact ladd_l
  · omega
theorem prNum_l {v : Int} {o : pO} : (prNum (ladd 700) v o).length ≤ o.length + 3 := by
  unfold prNum
  have h1 := prN1_l (o := o)
  have h2 := prN2_l (v := v) (o := prN1 (ladd 700) o)
  have h3 := ladd_l (n := 700) (xs := prN2 (ladd 700) v (prN1 (ladd 700) o)) (x := 48 + v % 10)
  omega
theorem isF_inR (c : Int) : isF c = inR c 48 57 := rfl
section MD29
variable {l : Launch} {E : gE} {d : Nat} {K : List gK} {R V : Int → Int → Int} {b h p v c n sp D bh N : Int} {Q : gQ} {out : pO} {tx : List Int} {gs : List gG} {e : Int → Int}
set_option maxRecDepth 4000 in
theorem m_printSign (hM : mdK K R) (hp : pI V out) (hl : out.length < 700) (hQ : ∀ V', pI V' (ladd 700 out c) → pfF V V' → Q none (K, R, V')) : gC l E (d + 1) iX12_printSign [ga 775, gi c] (K, R, V) Q := by
  refine gC_of kX12_printSign (ls := [some (ga 775), some (gi c)]) rfl (Nat.le_of_ble_eq_true rfl) ?_
  have hn := hp.1
  refine gX_aloadn dX12_printSign_0 rfl ?_
  refine gX_gR 54 dX12_printSign_1 fdX12_120 rfl rfl hM.1 (mR54 hM) ?_
  refine gX_aloadn dX12_printSign_4 rfl ?_
  refine gX_gI 55 dX12_printSign_5 fdX12_315 rfl (Or.inl rfl) hM.1 ?_
  rw [hn]
  refine gX_iloadn dX12_printSign_8 rfl ?_
  refine gX_iast dX12_printSign_9 (mA54 hM) (by omega) (by omega) ?_
  refine gX_aloadn dX12_printSign_10 rfl ?_
  refine gX_dup dX12_printSign_11 rfl ?_
  refine gX_gI 55 dX12_printSign_12 fdX12_315 rfl (Or.inl rfl) hM.1 ?_
  rw [show gup V 811 (out.length : Int) c 775 55 = (out.length : Int) by rw [gup_ne (by omega)]; exact hn]
  refine gX_iconst dX12_printSign_15 ⟨by decide, by decide⟩ ?_
  refine gX_iadd dX12_printSign_16 ⟨by omega, by omega⟩ ?_
  refine gX_pI 55 dX12_printSign_17 fdX12_315 fpX12_315 rfl (Or.inl rfl) hM.1 ?_
  refine gX_vret dX12_printSign_20 rfl ?_
  exact hQ _ (hp.ad hl) pfF.ad
set_option maxRecDepth 4000 in
theorem m_printNumber (hM : mdK K R) (hp : pI V out) (hl : out.length + 3 ≤ 700) (hv : 0 ≤ v ∧ v ≤ 63) (hQ : ∀ V', pI V' (prNum (ladd 700) v out) → pfF V V' → Q none (K, R, V')) : gC l E (d + 2) iX12_printNumber [ga 775, gi v] (K, R, V) Q := by
  refine gC_of kX12_printNumber (ls := [some (ga 775), some (gi v), none]) rfl (Nat.le_of_ble_eq_true rfl) ?_
  have l1 := prN1_l (o := out)
  have l2 := prN2_l (v := v) (o := (prN1 (ladd 700) out))
  have hn := hp.1
  have t3 : ∀ (V2 : Int → Int → Int) (j2 : Option gV) (bc bs : Nat), pI V2 (prN2 (ladd 700) v (prN1 (ladd 700) out)) → pfF V V2 → gX l E (gFm E (d + 2) iX12_printNumber Q) 94 [some (ga 775), some (gi v), j2] [] (K, R, V2) bc bs := by
    intro V2 j2 bc bs h2 f2
    refine gX_aloadn dX12_printNumber_94 rfl ?_
    refine gX_gR 54 dX12_printNumber_95 fdX12_120 rfl rfl hM.1 (mR54 hM) ?_
    refine gX_aloadn dX12_printNumber_98 rfl ?_
    refine gX_gI 55 dX12_printNumber_99 fdX12_315 rfl (Or.inl rfl) hM.1 ?_
    rw [h2.1]
    refine gX_bipush dX12_printNumber_102 (by decide) ⟨by decide, by decide⟩ ?_
    refine gX_iloadn dX12_printNumber_104 rfl ?_
    refine gX_bipush dX12_printNumber_105 (by decide) ⟨by decide, by decide⟩ ?_
    refine gX_irem dX12_printNumber_107 (by omega) (by omega) ?_
    refine gX_iadd dX12_printNumber_108 ⟨by omega, by omega⟩ ?_
    refine gX_iast dX12_printNumber_109 (mA54 hM) (by omega) (by omega) ?_
    refine gX_aloadn dX12_printNumber_110 rfl ?_
    refine gX_dup dX12_printNumber_111 rfl ?_
    refine gX_gI 55 dX12_printNumber_112 fdX12_315 rfl (Or.inl rfl) hM.1 ?_
    rw [show gup V2 811 ((prN2 (ladd 700) v (prN1 (ladd 700) out)).length : Int) (48 + (v % 10)) 775 55 = ((prN2 (ladd 700) v (prN1 (ladd 700) out)).length : Int) by rw [gup_ne (by omega)]; exact h2.1]
    refine gX_iconst dX12_printNumber_115 ⟨by decide, by decide⟩ ?_
    refine gX_iadd dX12_printNumber_116 ⟨by omega, by omega⟩ ?_
    refine gX_pI 55 dX12_printNumber_117 fdX12_315 fpX12_315 rfl (Or.inl rfl) hM.1 ?_
    refine gX_vret dX12_printNumber_120 rfl ?_
    exact hQ _ (h2.ad (by omega)) (f2.trans pfF.ad)
  have t2 : ∀ (V1 : Int → Int → Int) (j2 : Option gV) (bc bs : Nat), pI V1 (prN1 (ladd 700) out) → pfF V V1 → gX l E (gFm E (d + 2) iX12_printNumber Q) 62 [some (ga 775), some (gi v), j2] [] (K, R, V1) bc bs := by
    intro V1 j2 bc bs h1 f1
    refine gX_iloadn dX12_printNumber_62 rfl ?_
    refine gX_bipush dX12_printNumber_63 (by decide) ⟨by decide, by decide⟩ ?_
    refine gX_icmple (tgt := 94) dX12_printNumber_65 (by decide) (fun t1 => ?_) (fun t1 => ?_)
    · have e2 : (prN2 (ladd 700) v (prN1 (ladd 700) out)) = (prN1 (ladd 700) out) := if_neg (by omega)
      exact t3 _ _ _ _ (by rw [e2]; exact h1) f1
    · refine gX_aloadn dX12_printNumber_68 rfl ?_
      refine gX_gR 54 dX12_printNumber_69 fdX12_120 rfl rfl hM.1 (mR54 hM) ?_
      refine gX_aloadn dX12_printNumber_72 rfl ?_
      refine gX_gI 55 dX12_printNumber_73 fdX12_315 rfl (Or.inl rfl) hM.1 ?_
      rw [h1.1]
      refine gX_bipush dX12_printNumber_76 (by decide) ⟨by decide, by decide⟩ ?_
      refine gX_iloadn dX12_printNumber_78 rfl ?_
      refine gX_bipush dX12_printNumber_79 (by decide) ⟨by decide, by decide⟩ ?_
      refine gX_idiv dX12_printNumber_81 (by omega) (by omega) ?_
      refine gX_iadd dX12_printNumber_82 ⟨by omega, by omega⟩ ?_
      refine gX_iast dX12_printNumber_83 (mA54 hM) (by omega) (by omega) ?_
      refine gX_aloadn dX12_printNumber_84 rfl ?_
      refine gX_dup dX12_printNumber_85 rfl ?_
      refine gX_gI 55 dX12_printNumber_86 fdX12_315 rfl (Or.inl rfl) hM.1 ?_
      rw [show gup V1 811 ((prN1 (ladd 700) out).length : Int) (48 + (v / 10)) 775 55 = ((prN1 (ladd 700) out).length : Int) by rw [gup_ne (by omega)]; exact h1.1]
      refine gX_iconst dX12_printNumber_89 ⟨by decide, by decide⟩ ?_
      refine gX_iadd dX12_printNumber_90 ⟨by omega, by omega⟩ ?_
      refine gX_pI 55 dX12_printNumber_91 fdX12_315 fpX12_315 rfl (Or.inl rfl) hM.1 ?_
      have e2 : (prN2 (ladd 700) v (prN1 (ladd 700) out)) = ladd 700 (prN1 (ladd 700) out) (48 + v / 10) := if_pos (by omega)
      exact t3 _ _ _ _ (by rw [e2]; exact h1.ad (by omega)) (f1.trans pfF.ad)
  refine gX_aloadn dX12_printNumber_0 rfl ?_
  refine gX_gI 55 dX12_printNumber_1 fdX12_315 rfl (Or.inl rfl) hM.1 ?_
  rw [hn]
  refine gX_ifle (tgt := 35) dX12_printNumber_4 (by decide) (fun m1 => ?_) (fun m1 => ?_)
  · refine gX_iconst dX12_printNumber_35 ⟨by decide, by decide⟩ ?_
    refine gX_istoren dX12_printNumber_36 (show (2 : Nat) < 3 from by decide) (ls2 := [some (ga 775), some (gi v), some (gi 0)]) rfl ?_
    refine gX_iloadn dX12_printNumber_37 rfl ?_
    refine gX_ifeq (tgt := 62) dX12_printNumber_38 (by decide) (fun m2 => ?_) (fun m2 => by exfalso; omega)
    have e1 : (prN1 (ladd 700) out) = out := if_neg (fun z => by first | (have z2 : isF (lat out (out.length - 1)) = true := z; rw [lat_out (by omega)] at z2; exact absurd z2 (by decide)) | (have z2 : inR (lat out (out.length - 1)) 48 57 = true := z; rw [b2i_0 (b := inR (lat out (out.length - 1)) 48 57) (by assumption)] at z2; cases z2))
    exact t2 _ _ _ _ (by rw [e1]; exact hp) pfF.rf
  · refine gX_aloadn dX12_printNumber_7 rfl ?_
    refine gX_gR 54 dX12_printNumber_8 fdX12_120 rfl rfl hM.1 (mR54 hM) ?_
    refine gX_aloadn dX12_printNumber_11 rfl ?_
    refine gX_gI 55 dX12_printNumber_12 fdX12_315 rfl (Or.inl rfl) hM.1 ?_
    rw [hn]
    refine gX_iconst dX12_printNumber_15 ⟨by decide, by decide⟩ ?_
    refine gX_isub dX12_printNumber_16 ⟨by omega, by omega⟩ ?_
    refine gX_iald dX12_printNumber_17 (mA54 hM) (by omega) (by omega) ?_
    rw [hp.lst (by omega)]
    refine gX_i2l dX12_printNumber_18 ?_
    refine gX_ldc2 (x := 48) dX12_printNumber_19 clX12_174 (by decide) ⟨by decide, by decide⟩ ?_
    refine gX_ldc2 (x := 57) dX12_printNumber_22 clX12_176 (by decide) ⟨by decide, by decide⟩ ?_
    refine gX_stat (J := iX12_in) (av := [gl (lat out (out.length - 1)), gl 48, gl 57]) (st := []) dX12_printNumber_25 lkX12_154 kX12_in sX12_in (gFit_m (by decide)) rfl (Nat.le_of_ble_eq_true rfl) (Nat.zero_le _) (Nat.zero_le _) rfl ?_
    refine m_in ?_
    show gX l E _ 28 [some (ga 775), some (gi v), none] [gi (b2i (inR (lat out (out.length - 1)) 48 57))] (K, R, V) _ _
    refine gX_ifeq (tgt := 35) dX12_printNumber_28 (by decide) (fun m3 => ?_) (fun m3 => ?_)
    · have m3 := inR_0 m3
      refine gX_iconst dX12_printNumber_35 ⟨by decide, by decide⟩ ?_
      refine gX_istoren dX12_printNumber_36 (show (2 : Nat) < 3 from by decide) (ls2 := [some (ga 775), some (gi v), some (gi 0)]) rfl ?_
      refine gX_iloadn dX12_printNumber_37 rfl ?_
      refine gX_ifeq (tgt := 62) dX12_printNumber_38 (by decide) (fun m4 => ?_) (fun m4 => by exfalso; omega)
      have e1 : (prN1 (ladd 700) out) = out := if_neg (fun z => by first | (have z2 : isF (lat out (out.length - 1)) = true := z; rw [lat_out (by omega)] at z2; exact absurd z2 (by decide)) | (have z2 : inR (lat out (out.length - 1)) 48 57 = true := z; rw [b2i_0 (b := inR (lat out (out.length - 1)) 48 57) (by assumption)] at z2; cases z2))
      exact t2 _ _ _ _ (by rw [e1]; exact hp) pfF.rf
    · have m3 := inR_1 m3
      refine gX_iconst dX12_printNumber_31 ⟨by decide, by decide⟩ ?_
      refine gX_goto (tgt := 36) dX12_printNumber_32 (by decide) ?_
      refine gX_istoren dX12_printNumber_36 (show (2 : Nat) < 3 from by decide) (ls2 := [some (ga 775), some (gi v), some (gi 1)]) rfl ?_
      refine gX_iloadn dX12_printNumber_37 rfl ?_
      refine gX_ifeq (tgt := 62) dX12_printNumber_38 (by decide) (fun m5 => by exfalso; omega) (fun m5 => ?_)
      refine gX_aloadn dX12_printNumber_41 rfl ?_
      refine gX_gR 54 dX12_printNumber_42 fdX12_120 rfl rfl hM.1 (mR54 hM) ?_
      refine gX_aloadn dX12_printNumber_45 rfl ?_
      refine gX_gI 55 dX12_printNumber_46 fdX12_315 rfl (Or.inl rfl) hM.1 ?_
      rw [hn]
      refine gX_bipush dX12_printNumber_49 (by decide) ⟨by decide, by decide⟩ ?_
      refine gX_iast dX12_printNumber_51 (mA54 hM) (by omega) (by omega) ?_
      refine gX_aloadn dX12_printNumber_52 rfl ?_
      refine gX_dup dX12_printNumber_53 rfl ?_
      refine gX_gI 55 dX12_printNumber_54 fdX12_315 rfl (Or.inl rfl) hM.1 ?_
      rw [show gup V 811 (out.length : Int) 32 775 55 = (out.length : Int) by rw [gup_ne (by omega)]; exact hn]
      refine gX_iconst dX12_printNumber_57 ⟨by decide, by decide⟩ ?_
      refine gX_iadd dX12_printNumber_58 ⟨by omega, by omega⟩ ?_
      refine gX_pI 55 dX12_printNumber_59 fdX12_315 fpX12_315 rfl (Or.inl rfl) hM.1 ?_
      have e1 : (prN1 (ladd 700) out) = ladd 700 out 32 := if_pos (by rw [isF_inR]; exact b2i_1 (by assumption))
      exact t2 _ _ _ _ (by rw [e1]; exact hp.ad (by omega)) pfF.ad
set_option maxRecDepth 4000 in
theorem m_enter (hM : mdK K R) (hD : V 775 50 = D) (hd : 0 ≤ D ∧ D < 6) (hQ : Q none (K, R, gup (gup (gup (gup (gup V 805 D h) 806 D 0) 807 D (-1)) 808 D (-1)) 775 50 (D + 1))) : gC l E (d + 1) iX12_enter [ga 775, gi h] (K, R, V) Q := by
  refine gC_of kX12_enter (ls := [some (ga 775), some (gi h)]) rfl (Nat.le_of_ble_eq_true rfl) ?_
  refine gX_aloadn dX12_enter_0 rfl ?_
  refine gX_gR 46 dX12_enter_1 fdX12_102 rfl rfl hM.1 (mR46 hM) ?_
  refine gX_aloadn dX12_enter_4 rfl ?_
  refine gX_gI 50 dX12_enter_5 fdX12_312 rfl (Or.inl rfl) hM.1 ?_
  rw [show V 775 50 = D by exact hD]
  refine gX_iloadn dX12_enter_8 rfl ?_
  refine gX_iast dX12_enter_9 (mA46 hM) (by omega) (by omega) ?_
  refine gX_aloadn dX12_enter_10 rfl ?_
  refine gX_gR 47 dX12_enter_11 fdX12_105 rfl rfl hM.1 (mR47 hM) ?_
  refine gX_aloadn dX12_enter_14 rfl ?_
  refine gX_gI 50 dX12_enter_15 fdX12_312 rfl (Or.inl rfl) hM.1 ?_
  rw [show gup V 805 D h 775 50 = D by repeat rw [gup_ne (by omega)]; exact hD]
  refine gX_iconst dX12_enter_18 ⟨by decide, by decide⟩ ?_
  refine gX_iast dX12_enter_19 (mA47 hM) (by omega) (by omega) ?_
  refine gX_aloadn dX12_enter_20 rfl ?_
  refine gX_gR 48 dX12_enter_21 fdX12_108 rfl rfl hM.1 (mR48 hM) ?_
  refine gX_aloadn dX12_enter_24 rfl ?_
  refine gX_gI 50 dX12_enter_25 fdX12_312 rfl (Or.inl rfl) hM.1 ?_
  rw [show gup (gup V 805 D h) 806 D 0 775 50 = D by repeat rw [gup_ne (by omega)]; exact hD]
  refine gX_iconst dX12_enter_28 ⟨by decide, by decide⟩ ?_
  refine gX_iast dX12_enter_29 (mA48 hM) (by omega) (by omega) ?_
  refine gX_aloadn dX12_enter_30 rfl ?_
  refine gX_gR 49 dX12_enter_31 fdX12_111 rfl rfl hM.1 (mR49 hM) ?_
  refine gX_aloadn dX12_enter_34 rfl ?_
  refine gX_gI 50 dX12_enter_35 fdX12_312 rfl (Or.inl rfl) hM.1 ?_
  rw [show gup (gup (gup V 805 D h) 806 D 0) 807 D (-1) 775 50 = D by repeat rw [gup_ne (by omega)]; exact hD]
  refine gX_iconst dX12_enter_38 ⟨by decide, by decide⟩ ?_
  refine gX_iast dX12_enter_39 (mA49 hM) (by omega) (by omega) ?_
  refine gX_aloadn dX12_enter_40 rfl ?_
  refine gX_dup dX12_enter_41 rfl ?_
  refine gX_gI 50 dX12_enter_42 fdX12_312 rfl (Or.inl rfl) hM.1 ?_
  rw [show gup (gup (gup (gup V 805 D h) 806 D 0) 807 D (-1)) 808 D (-1) 775 50 = D by repeat rw [gup_ne (by omega)]; exact hD]
  refine gX_iconst dX12_enter_45 ⟨by decide, by decide⟩ ?_
  refine gX_iadd dX12_enter_46 ⟨by omega, by omega⟩ ?_
  refine gX_pI 50 dX12_enter_47 fdX12_312 fpX12_312 rfl (Or.inl rfl) hM.1 ?_
  refine gX_vret dX12_enter_50 rfl ?_
  exact hQ
def nxP (V : Int → Int → Int) (b n sp bh r : Int) : Prop := (r = -1 ∧ ∀ g : Int, bh < g → g < n → ¬ (V 804 g = 0 ∧ V 782 (20 * b + g) = sp)) ∨ (bh < r ∧ r < n ∧ V 804 r = 0 ∧ V 782 (20 * b + r) = sp ∧ ∀ g : Int, bh < g → g < r → ¬ (V 804 g = 0 ∧ V 782 (20 * b + g) = sp))
set_option maxRecDepth 4000 in
theorem m_nextOn (hM : mdK K R) (hb : 0 ≤ b ∧ b ≤ 10) (hn : V 779 b = n) (h20 : n ≤ 20) (hbh : -1 ≤ bh ∧ bh < 20) (hQ : ∀ r, nxP V b n sp bh r → Q (some (gi r)) (K, R, V)) : gC l E (d + 1) iX12_nextOn [ga 775, gi b, gi sp, gi bh] (K, R, V) Q := by
  refine gC_of kX12_nextOn (ls := [some (ga 775), some (gi b), some (gi sp), some (gi bh), none]) rfl (Nat.le_of_ble_eq_true rfl) ?_
  have lp : ∀ (jj : Nat) (i : Int) (bc bs : Nat), 21 - i < (jj : Int) → bh < i ∧ i ≤ 20 → (∀ g : Int, bh < g → g < i → ¬ (V 804 g = 0 ∧ V 782 (20 * b + g) = sp)) → gX l E (gFm E (d + 1) iX12_nextOn Q) 5 [some (ga 775), some (gi b), some (gi sp), some (gi bh), some (gi i)] [] (K, R, V) bc bs := by
    intro jj
    induction jj with
    | zero =>
      intro i bc bs hj q0 q1
      exfalso; omega
    | succ jj ih =>
      intro i bc bs hj q0 q1
      refine gX_iload dX12_nextOn_5 rfl ?_
      refine gX_aloadn dX12_nextOn_7 rfl ?_
      refine gX_gR 4 dX12_nextOn_8 fdX12_19 rfl rfl hM.1 (mR4 hM) ?_
      refine gX_iloadn dX12_nextOn_11 rfl ?_
      refine gX_iald dX12_nextOn_12 (mA4 hM) (by omega) (by omega) ?_
      rw [hn]
      refine gX_icmpge (tgt := 51) dX12_nextOn_13 (by decide) (fun w1 => ?_) (fun w1 => ?_)
      · refine gX_iconst dX12_nextOn_51 ⟨by decide, by decide⟩ ?_
        refine gX_iret dX12_nextOn_52 (Or.inl rfl) ?_
        exact hQ _ (Or.inl ⟨rfl, fun g g1 g2 => q1 g g1 (by omega)⟩)
      · refine gX_aloadn dX12_nextOn_16 rfl ?_
        refine gX_gR 45 dX12_nextOn_17 fdX12_98 rfl rfl hM.1 (mR45 hM) ?_
        refine gX_iload dX12_nextOn_20 rfl ?_
        refine gX_zald dX12_nextOn_22 (mA45 hM) (by omega) (by omega) ?_
        refine gX_ifne (tgt := 45) dX12_nextOn_23 (by decide) (fun w2 => ?_) (fun w2 => ?_)
        · refine gX_iinc dX12_nextOn_45 rfl (show (4 : Nat) < 5 from by decide) ⟨by omega, by omega⟩ (ls2 := [some (ga 775), some (gi b), some (gi sp), some (gi bh), some (gi (i + 1))]) rfl ?_
          refine gX_goto (tgt := 5) dX12_nextOn_48 (by decide) ?_
          refine ih (i + 1) _ _ (by omega) (by omega) (fun g g1 g2 => ?_)
          by_cases c9 : g = i
          · subst c9; intro z; omega
          · exact q1 g g1 (by omega)
        · refine gX_aloadn dX12_nextOn_26 rfl ?_
          refine gX_gR 7 dX12_nextOn_27 fdX12_28 rfl rfl hM.1 (mR7 hM) ?_
          refine gX_bipush dX12_nextOn_30 (by decide) ⟨by decide, by decide⟩ ?_
          refine gX_iloadn dX12_nextOn_32 rfl ?_
          refine gX_imul dX12_nextOn_33 ⟨by omega, by omega⟩ ?_
          refine gX_iload dX12_nextOn_34 rfl ?_
          refine gX_iadd dX12_nextOn_36 ⟨by omega, by omega⟩ ?_
          refine gX_iald dX12_nextOn_37 (mA7 hM) (by omega) (by omega) ?_
          refine gX_iloadn dX12_nextOn_38 rfl ?_
          refine gX_icmpne (tgt := 45) dX12_nextOn_39 (by decide) (fun w3 => ?_) (fun w3 => ?_)
          · refine gX_iinc dX12_nextOn_45 rfl (show (4 : Nat) < 5 from by decide) ⟨by omega, by omega⟩ (ls2 := [some (ga 775), some (gi b), some (gi sp), some (gi bh), some (gi (i + 1))]) rfl ?_
            refine gX_goto (tgt := 5) dX12_nextOn_48 (by decide) ?_
            refine ih (i + 1) _ _ (by omega) (by omega) (fun g g1 g2 => ?_)
            by_cases c9 : g = i
            · subst c9; intro z; omega
            · exact q1 g g1 (by omega)
          · refine gX_iload dX12_nextOn_42 rfl ?_
            refine gX_iret dX12_nextOn_44 (Or.inl rfl) ?_
            exact hQ _ (Or.inr ⟨q0.1, by omega, by assumption, by assumption, q1⟩)
  refine gX_iloadn dX12_nextOn_0 rfl ?_
  refine gX_iconst dX12_nextOn_1 ⟨by decide, by decide⟩ ?_
  refine gX_iadd dX12_nextOn_2 ⟨by omega, by omega⟩ ?_
  refine gX_istore dX12_nextOn_3 (show (4 : Nat) < 5 from by decide) (ls2 := [some (ga 775), some (gi b), some (gi sp), some (gi bh), some (gi (bh + 1))]) rfl ?_
  exact lp 22 (bh + 1) _ _ (by omega) (by omega) (fun g g1 g2 => by omega)
end MD29
