/-! BookReader: a sign, the whole. Written by wip/whole/tools/mk_reader2.py. -/
def rdS1 (c : Int) (s : bR) : Int × bR := if c = 91 then rdOpen s else if c = 93 then rdClose s else if c = 97 then rdKind 0 s else if c = 98 then rdKind 1 s else if c = 124 then rdGl s else (0, bF 1 s.1.1 s)
def rdSign (ys : List Int) (c : Int) (s : bR) : Int × bR := if (rdS1 c s).1 = 0 then (0, (rdS1 c s).2) else ((tkSig ys c (rdS1 c s).2.1).1, (tkSig ys c (rdS1 c s).2.1).2, (rdS1 c s).2.2)
theorem rdS1_at (c : Int) (s : bR) : (rdS1 c s).2.1.1 = s.1.1 := by
  unfold rdS1 rdOpen rdClose rdKind rdGl bF
  (repeat' split) <;> rfl
theorem rdS1_01 (c : Int) (s : bR) : (rdS1 c s).1 = 0 ∨ (rdS1 c s).1 = 1 := by
  unfold rdS1 rdOpen rdClose rdKind rdGl
  (repeat' split) <;> first | exact Or.inl rfl | exact Or.inr rfl
theorem tkSig_01 (ys : List Int) (c : Int) (t : tS) : (tkSig ys c t).1 = 0 ∨ (tkSig ys c t).1 = 1 := by
  unfold tkSig
  split
  · exact Or.inr rfl
  · exact Or.inl rfl
section READER2
variable {l : Launch} {E : gE} {d : Nat} {K : List gK} {R V : Int → Int → Int} {B T D g : Int} {Q : gQ} {ys : List Int} {s : bR}
set_option maxRecDepth 4000 in
theorem c_readSign {c : Int} (hD : rdK K R D) (hT : toK K R T) (hB : bkK K R B) (hd1 : T + 3 ≤ D) (hd2 : D < B) (hs : brIs V D T B ys s) (h0 : 0 ≤ s.1.1) (hl : s.1.1 ≤ ys.length) (hQ : ∀ V', brIs V' D T B ys (rdSign ys c s).2 → brF V V' D T B → Q (some (gi (rdSign ys c s).1)) (K, R, V')) : gC l E (d + 4) iX2_readSign [ga D, gi c, ga T, ga B] (K, R, V) Q := by
  refine gC_of kX2_readSign (ls := [some (ga D), some (gi c), some (ga T), some (ga B), none]) rfl (Nat.le_of_ble_eq_true rfl) ?_
  have ha := rdS1_at c s
  have h01 := rdS1_01 c s
  have hk01 := tkSig_01 ys c (rdS1 c s).2.1
  have tE : ∀ (V1 : Int → Int → Int) (r : Int) (bc bs : Nat), r = (rdS1 c s).1 → brIs V1 D T B ys (rdS1 c s).2 → brF V V1 D T B → gX l E (gFm E (d + 4) iX2_readSign Q) 120 [some (ga D), some (gi c), some (ga T), some (ga B), some (gi r)] [] (K, R, V1) bc bs := by
    intro V1 r bc bs hr hs1 hf1
    refine gX_iload dX2_readSign_120 rfl ?_
    refine gX_ifeq (tgt := 137) dX2_readSign_122 (by decide) (fun e1 => ?_) (fun e1 => ?_)
    · refine gX_iconst dX2_readSign_137 ⟨by decide, by decide⟩ ?_
      refine gX_iret dX2_readSign_138 (Or.inr ⟨rfl, Or.inl rfl⟩) ?_
      have e : rdSign ys c s = _ := if_pos (by omega)
      rw [e] at hQ
      exact hQ V1 hs1 hf1
    · refine gX_aloadn dX2_readSign_125 rfl ?_
      refine gX_iloadn dX2_readSign_126 rfl ?_
      refine gX_virt (J := iX8_takeSign) (av := [gi c]) (a := T) (st := []) dX2_readSign_127 lkX2_99 kX8_takeSign vX8_takeSign (gFit_m (by decide)) hT.1 rfl rfl (Nat.le_of_ble_eq_true rfl) (Nat.zero_le _) (Nat.zero_le _) rfl ?_
      refine c_takeSign hT hs1.1 (by omega) (by omega) (fun V2 ht2 hf2 => ?_)
      show gX l E _ 130 [some (ga D), some (gi c), some (ga T), some (ga B), some (gi r)] [gi ((tkSig ys c (rdS1 c s).2.1).1)] (K, R, V2) _ _
      refine gX_ifeq (tgt := 137) dX2_readSign_130 (by decide) (fun e2 => ?_) (fun e2 => ?_)
      · refine gX_iconst dX2_readSign_137 ⟨by decide, by decide⟩ ?_
        refine gX_iret dX2_readSign_138 (Or.inr ⟨rfl, Or.inl rfl⟩) ?_
        have e : rdSign ys c s = _ := if_neg (by omega)
        have e2 : (tkSig ys c (rdS1 c s).2.1).1 = 0 := by omega
        rw [e] at hQ
        have hq3 := hQ V2 (hs1.told hd1 hd2 ht2 hf2) (hf1.trans hf2.br)
        rw [show ((tkSig ys c (rdS1 c s).2.1).1, (tkSig ys c (rdS1 c s).2.1).2, (rdS1 c s).2.2).1 = (0 : Int) from e2] at hq3
        exact hq3
      · refine gX_iconst dX2_readSign_133 ⟨by decide, by decide⟩ ?_
        refine gX_goto (tgt := 138) dX2_readSign_134 (by decide) ?_
        refine gX_iret dX2_readSign_138 (Or.inr ⟨rfl, Or.inr rfl⟩) ?_
        have e : rdSign ys c s = _ := if_neg (by omega)
        have e2 : (tkSig ys c (rdS1 c s).2.1).1 = 1 := by omega
        rw [e] at hQ
        have hq3 := hQ V2 (hs1.told hd1 hd2 ht2 hf2) (hf1.trans hf2.br)
        rw [show ((tkSig ys c (rdS1 c s).2.1).1, (tkSig ys c (rdS1 c s).2.1).2, (rdS1 c s).2.2).1 = (1 : Int) from e2] at hq3
        exact hq3
  refine gX_iloadn dX2_readSign_0 rfl ?_
  by_cases hc0 : c = 91
  · have e0 : rdS1 c s = rdOpen s := if_pos hc0
    refine gX_lookup (tgt := 52) (off := 51) dX2_readSign_1 (by decide) (if_pos hc0.symm) (by decide) ?_
    refine gX_aloadn dX2_readSign_52 rfl ?_
    refine gX_aloadn dX2_readSign_53 rfl ?_
    refine gX_aloadn dX2_readSign_54 rfl ?_
    refine gX_virt (J := iX2_openSpan) (av := [ga T, ga B]) (a := D) (st := []) dX2_readSign_55 lkX2_87 kX2_openSpan vX2_openSpan (gFit_m (by decide)) hD rfl rfl (Nat.le_of_ble_eq_true rfl) (Nat.zero_le _) (Nat.zero_le _) rfl ?_
    refine c_openSpan hD hT hB hd1 hd2 hs (fun V1 hs1 hf1 => ?_)
    show gX l E _ 58 [some (ga D), some (gi c), some (ga T), some (ga B), none] [gi ((rdOpen s).1)] (K, R, V1) _ _
    refine gX_istore dX2_readSign_58 (show (4 : Nat) < 5 from by decide) (ls2 := [some (ga D), some (gi c), some (ga T), some (ga B), some (gi ((rdOpen s).1))]) rfl ?_
    refine gX_goto (tgt := 120) dX2_readSign_60 (by decide) ?_
    exact tE V1 _ _ _ (by rw [e0]) (by rw [e0]; exact hs1) hf1
  by_cases hc1 : c = 93
  · have e0 : rdS1 c s = rdClose s := (if_neg hc0).trans (if_pos hc1)
    refine gX_lookup (tgt := 74) (off := 73) dX2_readSign_1 (by decide) ((if_neg (fun z => hc0 z.symm)).trans (if_pos hc1.symm)) (by decide) ?_
    refine gX_aloadn dX2_readSign_74 rfl ?_
    refine gX_aloadn dX2_readSign_75 rfl ?_
    refine gX_aloadn dX2_readSign_76 rfl ?_
    refine gX_virt (J := iX2_closeSpan) (av := [ga T, ga B]) (a := D) (st := []) dX2_readSign_77 lkX2_93 kX2_closeSpan vX2_closeSpan (gFit_m (by decide)) hD rfl rfl (Nat.le_of_ble_eq_true rfl) (Nat.zero_le _) (Nat.zero_le _) rfl ?_
    refine c_closeSpan hD hT hB hd1 hd2 hs (fun V1 hs1 hf1 => ?_)
    show gX l E _ 80 [some (ga D), some (gi c), some (ga T), some (ga B), none] [gi ((rdClose s).1)] (K, R, V1) _ _
    refine gX_istore dX2_readSign_80 (show (4 : Nat) < 5 from by decide) (ls2 := [some (ga D), some (gi c), some (ga T), some (ga B), some (gi ((rdClose s).1))]) rfl ?_
    refine gX_goto (tgt := 120) dX2_readSign_82 (by decide) ?_
    exact tE V1 _ _ _ (by rw [e0]) (by rw [e0]; exact hs1) hf1
  by_cases hc2 : c = 97
  · have e0 : rdS1 c s = rdKind 0 s := (if_neg hc0).trans ((if_neg hc1).trans (if_pos hc2))
    refine gX_lookup (tgt := 85) (off := 84) dX2_readSign_1 (by decide) ((if_neg (fun z => hc0 z.symm)).trans ((if_neg (fun z => hc1 z.symm)).trans (if_pos hc2.symm))) (by decide) ?_
    refine gX_aloadn dX2_readSign_85 rfl ?_
    refine gX_iconst dX2_readSign_86 ⟨by decide, by decide⟩ ?_
    refine gX_aloadn dX2_readSign_87 rfl ?_
    refine gX_aloadn dX2_readSign_88 rfl ?_
    refine gX_virt (J := iX2_nameKind) (av := [gi 0, ga T, ga B]) (a := D) (st := []) dX2_readSign_89 lkX2_96 kX2_nameKind vX2_nameKind (gFit_m (by decide)) hD rfl rfl (Nat.le_of_ble_eq_true rfl) (Nat.zero_le _) (Nat.zero_le _) rfl ?_
    refine c_nameKind hD hT hB hd1 hd2 hs (fun V1 hs1 hf1 => ?_)
    show gX l E _ 92 [some (ga D), some (gi c), some (ga T), some (ga B), none] [gi ((rdKind 0 s).1)] (K, R, V1) _ _
    refine gX_istore dX2_readSign_92 (show (4 : Nat) < 5 from by decide) (ls2 := [some (ga D), some (gi c), some (ga T), some (ga B), some (gi ((rdKind 0 s).1))]) rfl ?_
    refine gX_goto (tgt := 120) dX2_readSign_94 (by decide) ?_
    exact tE V1 _ _ _ (by rw [e0]) (by rw [e0]; exact hs1) hf1
  by_cases hc3 : c = 98
  · have e0 : rdS1 c s = rdKind 1 s := (if_neg hc0).trans ((if_neg hc1).trans ((if_neg hc2).trans (if_pos hc3)))
    refine gX_lookup (tgt := 97) (off := 96) dX2_readSign_1 (by decide) ((if_neg (fun z => hc0 z.symm)).trans ((if_neg (fun z => hc1 z.symm)).trans ((if_neg (fun z => hc2 z.symm)).trans (if_pos hc3.symm)))) (by decide) ?_
    refine gX_aloadn dX2_readSign_97 rfl ?_
    refine gX_iconst dX2_readSign_98 ⟨by decide, by decide⟩ ?_
    refine gX_aloadn dX2_readSign_99 rfl ?_
    refine gX_aloadn dX2_readSign_100 rfl ?_
    refine gX_virt (J := iX2_nameKind) (av := [gi 1, ga T, ga B]) (a := D) (st := []) dX2_readSign_101 lkX2_96 kX2_nameKind vX2_nameKind (gFit_m (by decide)) hD rfl rfl (Nat.le_of_ble_eq_true rfl) (Nat.zero_le _) (Nat.zero_le _) rfl ?_
    refine c_nameKind hD hT hB hd1 hd2 hs (fun V1 hs1 hf1 => ?_)
    show gX l E _ 104 [some (ga D), some (gi c), some (ga T), some (ga B), none] [gi ((rdKind 1 s).1)] (K, R, V1) _ _
    refine gX_istore dX2_readSign_104 (show (4 : Nat) < 5 from by decide) (ls2 := [some (ga D), some (gi c), some (ga T), some (ga B), some (gi ((rdKind 1 s).1))]) rfl ?_
    refine gX_goto (tgt := 120) dX2_readSign_106 (by decide) ?_
    exact tE V1 _ _ _ (by rw [e0]) (by rw [e0]; exact hs1) hf1
  by_cases hc4 : c = 124
  · have e0 : rdS1 c s = rdGl s := (if_neg hc0).trans ((if_neg hc1).trans ((if_neg hc2).trans ((if_neg hc3).trans (if_pos hc4))))
    refine gX_lookup (tgt := 63) (off := 62) dX2_readSign_1 (by decide) ((if_neg (fun z => hc0 z.symm)).trans ((if_neg (fun z => hc1 z.symm)).trans ((if_neg (fun z => hc2 z.symm)).trans ((if_neg (fun z => hc3 z.symm)).trans (if_pos hc4.symm))))) (by decide) ?_
    refine gX_aloadn dX2_readSign_63 rfl ?_
    refine gX_aloadn dX2_readSign_64 rfl ?_
    refine gX_aloadn dX2_readSign_65 rfl ?_
    refine gX_virt (J := iX2_openGloss) (av := [ga T, ga B]) (a := D) (st := []) dX2_readSign_66 lkX2_90 kX2_openGloss vX2_openGloss (gFit_m (by decide)) hD rfl rfl (Nat.le_of_ble_eq_true rfl) (Nat.zero_le _) (Nat.zero_le _) rfl ?_
    refine c_openGloss hD hT hB hd1 hd2 hs (fun V1 hs1 hf1 => ?_)
    show gX l E _ 69 [some (ga D), some (gi c), some (ga T), some (ga B), none] [gi ((rdGl s).1)] (K, R, V1) _ _
    refine gX_istore dX2_readSign_69 (show (4 : Nat) < 5 from by decide) (ls2 := [some (ga D), some (gi c), some (ga T), some (ga B), some (gi ((rdGl s).1))]) rfl ?_
    refine gX_goto (tgt := 120) dX2_readSign_71 (by decide) ?_
    exact tE V1 _ _ _ (by rw [e0]) (by rw [e0]; exact hs1) hf1
  have e0 : rdS1 c s = (0, bF 1 s.1.1 s) := (if_neg hc0).trans ((if_neg hc1).trans ((if_neg hc2).trans ((if_neg hc3).trans (if_neg hc4))))
  refine gX_lookup (tgt := 109) (off := 108) dX2_readSign_1 (by decide) ((if_neg (fun z => hc0 z.symm)).trans ((if_neg (fun z => hc1 z.symm)).trans ((if_neg (fun z => hc2 z.symm)).trans ((if_neg (fun z => hc3 z.symm)).trans (if_neg (fun z => hc4 z.symm)))))) (by decide) ?_
  refine gX_aloadn dX2_readSign_109 rfl ?_
  refine gX_iconst dX2_readSign_110 ⟨by decide, by decide⟩ ?_
  refine gX_aloadn dX2_readSign_111 rfl ?_
  refine gX_gI 1 dX2_readSign_112 fdX2_47 rfl (Or.inl rfl) hT.1 ?_
  rw [hs.1.1]
  refine gX_virt (J := iX8_fail) (av := [gi 1, gi s.1.1]) (a := T) (st := []) dX2_readSign_115 lkX2_50 kX8_fail vX8_fail (gFit_m (by decide)) hT.1 rfl rfl (Nat.le_of_ble_eq_true rfl) (Nat.zero_le _) (Nat.zero_le _) rfl ?_
  refine c_fail hT hs.1 (fun V8 ht8 hf8 => ?_)
  show gX l E _ 118 [some (ga D), some (gi c), some (ga T), some (ga B), none] [gi 0] (K, R, V8) _ _
  refine gX_istore dX2_readSign_118 (show (4 : Nat) < 5 from by decide) (ls2 := [some (ga D), some (gi c), some (ga T), some (ga B), some (gi 0)]) rfl ?_
  exact tE V8 _ _ _ (by rw [e0]) (by rw [e0]; exact hs.told hd1 hd2 ht8 hf8) hf8.br
end READER2
