/-! BookReader: a sign, the whole. Written by wip/whole/tools/mk_reader2.py. -/
def rdS1 (c : Int) (s : bR) : Int × bR := if c = 91 then rdOpen s else if c = 93 then rdClose s else if c = 97 then rdKind 0 s else if c = 98 then rdKind 1 s else if c = 124 then rdGl s else (0, bF 1 s.1.1 s)
def rdSign (ys : List Int) (c : Int) (s : bR) : Int × bR := if (rdS1 c s).1 = 0 then (0, (rdS1 c s).2) else ((tkSig ys c (rdS1 c s).2.1).1, (tkSig ys c (rdS1 c s).2.1).2, (rdS1 c s).2.2)
theorem rdS1_at (c : Int) (s : bR) : (rdS1 c s).2.1.1 = s.1.1 := by
  unfold rdS1 rdOpen rdClose rdKind rdGl bF
  (repeat' split) <;> rfl
theorem rdS1_01 (c : Int) (s : bR) : (rdS1 c s).1 = 0 ∨ (rdS1 c s).1 = 1 := by
  unfold rdS1 rdOpen rdClose rdKind rdGl
  (repeat' split) <;> first | exact Or.inl rfl | exact Or.inr rfl
theorem tkSig_01 (ys : List Int) (c : Int) (t : tS) : (tkSig ys c t).1 = 0 ∨ (tkSig ys c t).1 = 1 := by
  unfold tkSig
  split
  · exact Or.inr rfl
  · exact Or.inl rfl
section READER2
variable {l : Launch} {E : gE} {d : Nat} {K : List gK} {R V : Int → Int → Int} {B T D g : Int} {Q : gQ} {ys : List Int} {s : bR}
set_option maxRecDepth 4000 in
theorem c_readSign {c : Int} (hD : rdK K R D) (hT : toK K R T) (hB : bkK K R B) (hd1 : T + 3 ≤ D) (hd2 : D < B) (hs : brIs V D T B ys s) (h0 : 0 ≤ s.1.1) (hl : s.1.1 ≤ ys.length) (hQ : ∀ V', brIs V' D T B ys (rdSign ys c s).2 → brF V V' D T B → Q (some (gi (rdSign ys c s).1)) (K, R, V')) : gC l E (d + 4) iX2_readSign [ga D, gi c, ga T, ga B] (K, R, V) Q := by
  refine gC_of kX2_readSign (ls := [some (ga D), some (gi c), some (ga T), some (ga B), none]) rfl (Nat.le_of_ble_eq_true rfl) ?_
  have ha := rdS1_at c s
  have h01 := rdS1_01 c s
  have hk01 := tkSig_01 ys c (rdS1 c s).2.1
  have tE : ∀ (V1 : Int → Int → Int) (r : Int) (bc bs : Nat), r = (rdS1 c s).1 → brIs V1 D T B ys (rdS1 c s).2 → brF V V1 D T B → gX l E (gFm E (d + 4) iX2_readSign Q) 120 [some (ga D), some (gi c), some (ga T), some (ga B), some (gi r)] [] (K, R, V1) bc bs := by
    intro V1 r bc bs hr hs1 hf1
    refine gX_iload dX2_readSign_120 rfl ?_
    refine gX_ifeq (tgt := 137) dX2_readSign_122 (by decide) (fun e1 => ?_) (fun e1 => ?_)
    · refine gX_iconst dX2_readSign_137 ⟨by decide, by decide⟩ ?_
      refine gX_iret dX2_readSign_138 (Or.inr ⟨rfl, Or.inl rfl⟩) ?_
      have e : rdSign ys c s = _ := if_pos (by omega)
      rw [e] at hQ
      exact hQ V1 hs1 hf1
    · refine gX_aloadn dX2_readSign_125 rfl ?_
      refine gX_iloadn dX2_readSign_126 rfl ?_
      refine gX_virt (J := iX8_takeSign) (av := [gi c]) (a := T) (st := []) dX2_readSign_127 lkX2_99 kX8_takeSign vX8_takeSign (gFit_m (by decide)) hT.1 rfl rfl (Nat.le_of_ble_eq_true rfl) (Nat.zero_le _) (Nat.zero_le _) rfl ?_
      refine c_takeSign hT hs1.1 (by omega) (by omega) (fun V2 ht2 hf2 => ?_)
      show gX l E _ 130 [some (ga D), some (gi c), some (ga T), some (ga B), some (gi r)] [gi ((tkSig ys c (rdS1 c s).2.1).1)] (K, R, V2) _ _
      refine gX_ifeq (tgt := 137) dX2_readSign_130 (by decide) (fun e2 => ?_) (fun e2 => ?_)
      · refine gX_iconst dX2_readSign_137 ⟨by decide, by decide⟩ ?_
        refine gX_iret dX2_readSign_138 (Or.inr ⟨rfl, Or.inl rfl⟩) ?_
        have e : rdSign ys c s = _ := if_neg (by omega)
        have e2 : (tkSig ys c (rdS1 c s).2.1).1 = 0 := by omega
        rw [e] at hQ
        have hq3 := hQ V2 (hs1.told hd1 hd2 ht2 hf2) (hf1.trans hf2.br)
        rw [show ((tkSig ys c (rdS1 c s).2.1).1, (tkSig ys c (rdS1 c s).2.1).2, (rdS1 c s).2.2).1 = (0 : Int) from e2] at hq3
        exact hq3
      · refine gX_iconst dX2_readSign_133 ⟨by decide, by decide⟩ ?_
        refine gX_goto (tgt := 138) dX2_readSign_134 (by decide) ?_
        refine gX_iret dX2_readSign_138 (Or.inr ⟨rfl, Or.inr rfl⟩) ?_
        have e : rdSign ys c s = _ := if_neg (by omega)
        have e2 : (tkSig ys c (rdS1 c s).2.1).1 = 1 := by omega
        rw [e] at hQ
        have hq3 := hQ V2 (hs1.told hd1 hd2 ht2 hf2) (hf1.trans hf2.br)
        rw [show ((tkSig ys c (rdS1 c s).2.1).1, (tkSig ys c (rdS1 c s).2.1).2, (rdS1 c s).2.2).1 = (1 : Int) from e2] at hq3
        exact hq3
  refine gX_iloadn dX2_readSign_0 rfl ?_
  by_cases hc0 : c = 91
  · have e0 : rdS1 c s = rdOpen s := if_pos hc0
    refine gX_lookup (tgt := 52) (off := 51) dX2_readSign_1 (by decide) (if_pos hc0.symm) (by decide) ?_
    refine gX_aloadn dX2_readSign_52 rfl ?_
    refine gX_aloadn dX2_readSign_53 rfl ?_
    refine gX_aloadn dX2_readSign_54 rfl ?_
    refine gX_virt (J := iX2_openSpan) (av := [ga T, ga B]) (a := D) (st := []) dX2_readSign_55 lkX2_87 kX2_openSpan vX2_openSpan (gFit_m (by decide)) hD rfl rfl (Nat.le_of_ble_eq_true rfl) (Nat.zero_le _) (Nat.zero_le _) rfl ?_
    refine c_openSpan hD hT hB hd1 hd2 hs (fun V1 hs1 hf1 => ?_)
    show gX l E _ 58 [some (ga D), some (gi c), some (ga T), some (ga B), none] [gi ((rdOpen s).1)] (K, R, V1) _ _
    refine gX_istore dX2_readSign_58 (show (4 : Nat) < 5 from by decide) (ls2 := [some (ga D), some (gi c), some (ga T), some (ga B), some (gi ((rdOpen s).1))]) rfl ?_
    refine gX_goto (tgt := 120) dX2_readSign_60 (by decide) ?_
    exact tE V1 _ _ _ (by rw [e0]) (by rw [e0]; exact hs1) hf1
  by_cases hc1 : c = 93
  · have e0 : rdS1 c s = rdClose s := (if_neg hc0).trans (if_pos hc1)
    refine gX_lookup (tgt := 74) (off := 73) dX2_readSign_1 (by decide) ((if_neg (fun z => hc0 z.symm)).trans (if_pos hc1.symm)) (by decide) ?_
    refine gX_aloadn dX2_readSign_74 rfl ?_
    refine gX_aloadn dX2_readSign_75 rfl ?_
    refine gX_aloadn dX2_readSign_76 rfl ?_
    refine gX_virt (J := iX2_closeSpan) (av := [ga T, ga B]) (a := D) (st := []) dX2_readSign_77 lkX2_93 kX2_closeSpan vX2_closeSpan (gFit_m (by decide)) hD rfl rfl (Nat.le_of_ble_eq_true rfl) (Nat.zero_le _) (Nat.zero_le _) rfl ?_
    refine c_closeSpan hD hT hB hd1 hd2 hs (fun V1 hs1 hf1 => ?_)
    show gX l E _ 80 [some (ga D), some (gi c), some (ga T), some (ga B), none] [gi ((rdClose s).1)] (K, R, V1) _ _
    refine gX_istore dX2_readSign_80 (show (4 : Nat) < 5 from by decide) (ls2 := [some (ga D), some (gi c), some (ga T), some (ga B), some (gi ((rdClose s).1))]) rfl ?_
    refine gX_goto (tgt := 120) dX2_readSign_82 (by decide) ?_
    exact tE V1 _ _ _ (by rw [e0]) (by rw [e0]; exact hs1) hf1
  by_cases hc2 : c = 97
  · have e0 : rdS1 c s = rdKind 0 s := (if_neg hc0).trans ((if_neg hc1).trans (if_pos hc2))
    refine gX_lookup (tgt := 85) (off := 84) dX2_readSign_1 (by decide) ((if_neg (fun z => hc0 z.symm)).trans ((if_neg (fun z => hc1 z.symm)).trans (if_pos hc2.symm))) (by decide) ?_
    refine gX_aloadn dX2_readSign_85 rfl ?_
    refine gX_iconst dX2_readSign_86 ⟨by decide, by decide⟩ ?_
    refine gX_aloadn dX2_readSign_87 rfl ?_
    refine gX_aloadn dX2_readSign_88 rfl ?_
    refine gX_virt (J := iX2_nameKind) (av := [gi 0, ga T, ga B]) (a := D) (st := []) dX2_readSign_89 lkX2_96 kX2_nameKind vX2_nameKind (gFit_m (by decide)) hD rfl rfl (Nat.le_of_ble_eq_true rfl) (Nat.zero_le _) (Nat.zero_le _) rfl ?_
    refine c_nameKind hD hT hB hd1 hd2 hs (fun V1 hs1 hf1 => ?_)
    show gX l E _ 92 [some (ga D), some (gi c), some (ga T), some (ga B), none] [gi ((rdKind 0 s).1)] (K, R, V1) _ _
    refine gX_istore dX2_readSign_92 (show (4 : Nat) < 5 from by decide) (ls2 := [some (ga D), some (gi c), some (ga T), some (ga B), some (gi ((rdKind 0 s).1))]) rfl ?_
    refine gX_goto (tgt := 120) dX2_readSign_94 (by decide) ?_
    exact tE V1 _ _ _ (by rw [e0]) (by rw [e0]; exact hs1) hf1
  by_cases hc3 : c = 98
  · have e0 : rdS1 c s = rdKind 1 s := (if_neg hc0).trans ((if_neg hc1).trans ((if_neg hc2).trans (if_pos hc3)))
    refine gX_lookup (tgt := 97) (off := 96) dX2_readSign_1 (by decide) ((if_neg (fun z => hc0 z.symm)).trans ((if_neg (fun z => hc1 z.symm)).trans ((if_neg (fun z => hc2 z.symm)).trans (if_pos hc3.symm)))) (by decide) ?_
    refine gX_aloadn dX2_readSign_97 rfl ?_
    refine gX_iconst dX2_readSign_98 ⟨by decide, by decide⟩ ?_
    refine gX_aloadn dX2_readSign_99 rfl ?_
    refine gX_aloadn dX2_readSign_100 rfl ?_
    refine gX_virt (J := iX2_nameKind) (av := [gi 1, ga T, ga B]) (a := D) (st := []) dX2_readSign_101 lkX2_96 kX2_nameKind vX2_nameKind (gFit_m (by decide)) hD rfl rfl (Nat.le_of_ble_eq_true rfl) (Nat.zero_le _) (Nat.zero_le _) rfl ?_
    refine c_nameKind hD hT hB hd1 hd2 hs (fun V1 hs1 hf1 => ?_)
    show gX l E _ 104 [some (ga D), some (gi c), some (ga T), some (ga B), none] [gi ((rdKind 1 s).1)] (K, R, V1) _ _
    refine gX_istore dX2_readSign_104 (show (4 : Nat) < 5 from by decide) (ls2 := [some (ga D), some (gi c), some (ga T), some (ga B), some (gi ((rdKind 1 s).1))]) rfl ?_
    refine gX_goto (tgt := 120) dX2_readSign_106 (by decide) ?_
    exact tE V1 _ _ _ (by rw [e0]) (by rw [e0]; exact hs1) hf1
  by_cases hc4 : c = 124
  · have e0 : rdS1 c s = rdGl s := (if_neg hc0).trans ((if_neg hc1).trans ((if_neg hc2).trans ((if_neg hc3).trans (if_pos hc4))))
    refine gX_lookup (tgt := 63) (off := 62) dX2_readSign_1 (by decide) ((if_neg (fun z => hc0 z.symm)).trans ((if_neg (fun z => hc1 z.symm)).trans ((if_neg (fun z => hc2 z.symm)).trans ((if_neg (fun z => hc3 z.symm)).trans (if_pos hc4.symm))))) (by decide) ?_
    refine gX_aloadn dX2_readSign_63 rfl ?_
    refine gX_aloadn dX2_readSign_64 rfl ?_
    refine gX_aloadn dX2_readSign_65 rfl ?_
    refine gX_virt (J := iX2_openGloss) (av := [ga T, ga B]) (a := D) (st := []) dX2_readSign_66 lkX2_90 kX2_openGloss vX2_openGloss (gFit_m (by decide)) hD rfl rfl (Nat.le_of_ble_eq_true rfl) (Nat.zero_le _) (Nat.zero_le _) rfl ?_
    refine c_openGloss hD hT hB hd1 hd2 hs (fun V1 hs1 hf1 => ?_)
    show gX l E _ 69 [some (ga D), some (gi c), some (ga T), some (ga B), none] [gi ((rdGl s).1)] (K, R, V1) _ _
    refine gX_istore dX2_readSign_69 (show (4 : Nat) < 5 from by decide) (ls2 := [some (ga D), some (gi c), some (ga T), some (ga B), some (gi ((rdGl s).1))]) rfl ?_
    refine gX_goto (tgt := 120) dX2_readSign_71 (by decide) ?_
    exact tE V1 _ _ _ (by rw [e0]) (by rw [e0]; exact hs1) hf1
  have e0 : rdS1 c s = (0, bF 1 s.1.1 s) := (if_neg hc0).trans ((if_neg hc1).trans ((if_neg hc2).trans ((if_neg hc3).trans (if_neg hc4))))
  refine gX_lookup (tgt := 109) (off := 108) dX2_readSign_1 (by decide) ((if_neg (fun z => hc0 z.symm)).trans ((if_neg (fun z => hc1 z.symm)).trans ((if_neg (fun z => hc2 z.symm)).trans ((if_neg (fun z => hc3 z.symm)).trans (if_neg (fun z => hc4 z.symm)))))) (by decide) ?_
  refine gX_aloadn dX2_readSign_109 rfl ?_
  refine gX_iconst dX2_readSign_110 ⟨by decide, by decide⟩ ?_
  refine gX_aloadn dX2_readSign_111 rfl ?_
  refine gX_gI 1 dX2_readSign_112 fdX2_47 rfl (Or.inl rfl) hT.1 ?_
  rw [hs.1.1]
  refine gX_virt (J := iX8_fail) (av := [gi 1, gi s.1.1]) (a := T) (st := []) dX2_readSign_115 lkX2_50 kX8_fail vX8_fail (gFit_m (by decide)) hT.1 rfl rfl (Nat.le_of_ble_eq_true rfl) (Nat.zero_le _) (Nat.zero_le _) rfl ?_
  refine c_fail hT hs.1 (fun V8 ht8 hf8 => ?_)
  show gX l E _ 118 [some (ga D), some (gi c), some (ga T), some (ga B), none] [gi 0] (K, R, V8) _ _
  refine gX_istore dX2_readSign_118 (show (4 : Nat) < 5 from by decide) (ls2 := [some (ga D), some (gi c), some (ga T), some (ga B), some (gi 0)]) rfl ?_
  exact tE V8 _ _ _ (by rw [e0]) (by rw [e0]; exact hs.told hd1 hd2 ht8 hf8) hf8.br
theorem lat_lt {ys : List Int} {x : Int} (h : lat ys x ≠ -1) : 0 ≤ x ∧ x < ys.length := by
  unfold lat at h
  by_cases c : x < 0
  · rw [if_pos c] at h; exact absurd rfl h
  · rw [if_neg c] at h
    by_cases e : x.toNat < ys.length
    · omega
    · rw [List.getD_eq_getElem?_getD, List.getElem?_eq_none (by omega)] at h; exact absurd rfl h
theorem fiF_in {ys : List Int} {tok : Int} : ∀ (n : Nat) (a v : Int), a ≤ ys.length → a ≤ (fiF ys tok n a v).1 ∧ (fiF ys tok n a v).1 ≤ ys.length
  | 0, a, v, h => ⟨Int.le_refl _, h⟩
  | n + 1, a, v, h => by
    by_cases c : a < ys.length ∧ isF (lat ys a) = true
    · have e : fiF ys tok (n + 1) a v = fiF ys tok n (a + 1) (if a - tok < 2 then v * 10 + lat ys a - 48 else v) := if_pos c
      rw [e]
      have := fiF_in (ys := ys) (tok := tok) n (a + 1) (if a - tok < 2 then v * 10 + lat ys a - 48 else v) (by omega)
      omega
    · have e : fiF ys tok (n + 1) a v = (a, v) := if_neg c
      rw [e]; exact ⟨Int.le_refl _, h⟩
theorem tkNum_at {ys : List Int} {lo hi : Int} {t : tS} (h0 : 0 ≤ t.1) (h1 : t.1 ≤ ys.length) : 0 ≤ (tkNum ys lo hi t).2.1 ∧ (tkNum ys lo hi t).2.1 ≤ ys.length := by
  have hp := pkB_in h0 h1
  have hf := fiF_in (ys := ys) (tok := pkB ys t.1) 321 (pkB ys t.1) 0 hp.2
  unfold tkNum
  split
  · split
    · show 0 ≤ (fiF ys _ 321 _ 0).1 ∧ (fiF ys _ 321 _ 0).1 ≤ _; omega
    · show 0 ≤ (fiF ys _ 321 _ 0).1 ∧ (fiF ys _ 321 _ 0).1 ≤ _; omega
  · show 0 ≤ pkB ys t.1 ∧ pkB ys t.1 ≤ _; omega
theorem rdWord_at {ys : List Int} {s : bR} (h0 : 0 ≤ s.1.1) (h1 : s.1.1 ≤ ys.length) : 0 ≤ (rdWord ys s).2.1.1 ∧ (rdWord ys s).2.1.1 ≤ ys.length := by
  have ht := tkNum_at (lo := 0) (hi := 63) h0 h1
  unfold rdWord
  split
  · exact ⟨h0, h1⟩
  · split
    · exact ht
    · split
      · exact ht
      · exact ht
theorem rdSign_at {ys : List Int} {c : Int} {s : bR} (h0 : 0 ≤ s.1.1) (h1 : s.1.1 ≤ ys.length) : 0 ≤ (rdSign ys c s).2.1.1 ∧ (rdSign ys c s).2.1.1 ≤ ys.length := by
  have ha := rdS1_at c s
  unfold rdSign
  split
  · show 0 ≤ (rdS1 c s).2.1.1 ∧ _; rw [ha]; exact ⟨h0, h1⟩
  · next hn =>
    have hc : c ≠ -1 := fun z => hn (by rw [z]; rfl)
    have hp := pkB_in (ys := ys) (a := (rdS1 c s).2.1.1) (by omega) (by omega)
    show 0 ≤ (tkSig ys c (rdS1 c s).2.1).2.1 ∧ (tkSig ys c (rdS1 c s).2.1).2.1 ≤ _
    unfold tkSig
    split
    · next he =>
      have hl := lat_lt (ys := ys) (x := pkB ys (rdS1 c s).2.1.1) (by rw [he]; exact hc)
      show 0 ≤ pkB ys (rdS1 c s).2.1.1 + 1 ∧ pkB ys (rdS1 c s).2.1.1 + 1 ≤ _; omega
    · show 0 ≤ pkB ys (rdS1 c s).2.1.1 ∧ pkB ys (rdS1 c s).2.1.1 ≤ _; omega
def pk2 (ys : List Int) (s : bR) : bR := ((pkB ys (pkB ys s.1.1), s.1.2), s.2)
def rdSt (ys : List Int) (s : bR) : Int × bR := if isF (lat ys (pkB ys (pkB ys s.1.1))) = true then rdWord ys (pk2 ys s) else rdSign ys (lat ys (pkB ys (pkB ys s.1.1))) (pk2 ys s)
theorem rdSt_at {ys : List Int} {s : bR} (h0 : 0 ≤ s.1.1) (h1 : s.1.1 ≤ ys.length) : 0 ≤ (rdSt ys s).2.1.1 ∧ (rdSt ys s).2.1.1 ≤ ys.length := by
  have hp := pkB_in h0 h1
  have hp2 := pkB_in (ys := ys) (a := pkB ys s.1.1) (by omega) hp.2
  have a0 : 0 ≤ (pk2 ys s).1.1 := by show 0 ≤ pkB ys (pkB ys s.1.1); omega
  have a1 : (pk2 ys s).1.1 ≤ ys.length := hp2.2
  unfold rdSt
  split
  · exact rdWord_at a0 a1
  · exact rdSign_at a0 a1
def rdB (ys : List Int) : Nat → Int → bR → Int × bR
  | 0, st, s => (st, s)
  | n + 1, st, s => if st = 0 then (0, s) else if lat ys (pkB ys s.1.1) = -1 then (st, (pkB ys s.1.1, s.1.2), s.2) else rdB ys n (rdSt ys s).1 (rdSt ys s).2
def rdE (r : Int × bR) : bR := if r.1 ≠ 0 ∧ (r.2.2.2.2.1 ≠ 0 ∨ r.2.2.2.2.2.1 ≠ -1) then bF 1 r.2.1.1 r.2 else r.2
theorem rdWord_01 (ys : List Int) (s : bR) : (rdWord ys s).1 = 0 ∨ (rdWord ys s).1 = 1 := by
  unfold rdWord
  (repeat' split) <;> first | exact Or.inl rfl | exact Or.inr rfl
theorem rdSign_01 (ys : List Int) (c : Int) (s : bR) : (rdSign ys c s).1 = 0 ∨ (rdSign ys c s).1 = 1 := by
  unfold rdSign
  split
  · exact Or.inl rfl
  · exact tkSig_01 _ _ _
def rd0 : bR := ((0, 0, 0, -1), [], [], 0, -1, 0)
set_option maxRecDepth 4000 in
theorem c_readBook {t : tS} (hD : rdK K R D) (hT : toK K R T) (hB : bkK K R B) (hd1 : T + 3 ≤ D) (hd2 : D < B) (ht : toIs V T ys t) (hQ : ∀ V', brIs V' D T B ys (rdE (rdB ys 320 1 ((0, 0, 0, -1), [], [], 0, -1, V D 2))) → brF V V' D T B → Q none (K, R, V')) : gC l E (d + 5) iX2_readBook [ga D, ga T, ga B] (K, R, V) Q := by
  refine gC_of kX2_readBook (ls := [some (ga D), some (ga T), some (ga B), none, none, none]) rfl (Nat.le_of_ble_eq_true rfl) ?_
  have tE : ∀ (V1 : Int → Int → Int) (r : Int × bR) (n5 j5 : Option gV) (bc bs : Nat), brIs V1 D T B ys r.2 → brF V V1 D T B → (∀ V', brIs V' D T B ys (rdE r) → brF V V' D T B → Q none (K, R, V')) → gX l E (gFm E (d + 5) iX2_readBook Q) 81 [some (ga D), some (ga T), some (ga B), some (gi r.1), n5, j5] [] (K, R, V1) bc bs := by
    intro V1 r n5 j5 bc bs hs1 hf1 hq
    refine gX_iloadn dX2_readBook_81 rfl ?_
    refine gX_ifeq (tgt := 110) dX2_readBook_82 (by decide) (fun e1 => ?_) (fun e1 => ?_)
    · refine gX_vret dX2_readBook_110 rfl ?_
      have e : rdE r = _ := if_neg (by omega)
      rw [e] at hq
      exact hq V1 hs1 hf1
    · refine gX_aloadn dX2_readBook_85 rfl ?_
      refine gX_gI 0 dX2_readBook_86 fdX2_11 rfl (Or.inl rfl) hD ?_
      rw [hs1.2.2.2.1]
      refine gX_ifne (tgt := 100) dX2_readBook_89 (by decide) (fun e2 => ?_) (fun e2 => ?_)
      · refine gX_aloadn dX2_readBook_100 rfl ?_
        refine gX_iconst dX2_readBook_101 ⟨by decide, by decide⟩ ?_
        refine gX_aloadn dX2_readBook_102 rfl ?_
        refine gX_gI 1 dX2_readBook_103 fdX2_47 rfl (Or.inl rfl) hT.1 ?_
        rw [hs1.1.1]
        refine gX_virt (J := iX8_fail) (av := [gi 1, gi r.2.1.1]) (a := T) (st := []) dX2_readBook_106 lkX2_50 kX8_fail vX8_fail (gFit_m (by decide)) hT.1 rfl rfl (Nat.le_of_ble_eq_true rfl) (Nat.zero_le _) (Nat.zero_le _) rfl ?_
        refine c_fail hT hs1.1 (fun V8 ht8 hf8 => ?_)
        show gX l E _ 109 [some (ga D), some (ga T), some (ga B), some (gi r.1), n5, j5] [gi 0] (K, R, V8) _ _
        refine gX_pop dX2_readBook_109 rfl ?_
        refine gX_vret dX2_readBook_110 rfl ?_
        have e : rdE r = _ := if_pos ⟨by omega, by omega⟩
        rw [e] at hq
        exact hq V8 (hs1.told hd1 hd2 ht8 hf8) (hf1.trans hf8.br)
      · refine gX_aloadn dX2_readBook_92 rfl ?_
        refine gX_gI 1 dX2_readBook_93 fdX2_15 rfl (Or.inl rfl) hD ?_
        rw [hs1.2.2.2.2.1]
        refine gX_iconst dX2_readBook_96 ⟨by decide, by decide⟩ ?_
        refine gX_icmpeq (tgt := 110) dX2_readBook_97 (by decide) (fun e3 => ?_) (fun e3 => ?_)
        · refine gX_vret dX2_readBook_110 rfl ?_
          have e : rdE r = _ := if_neg (by omega)
          rw [e] at hq
          exact hq V1 hs1 hf1
        · refine gX_aloadn dX2_readBook_100 rfl ?_
          refine gX_iconst dX2_readBook_101 ⟨by decide, by decide⟩ ?_
          refine gX_aloadn dX2_readBook_102 rfl ?_
          refine gX_gI 1 dX2_readBook_103 fdX2_47 rfl (Or.inl rfl) hT.1 ?_
          rw [hs1.1.1]
          refine gX_virt (J := iX8_fail) (av := [gi 1, gi r.2.1.1]) (a := T) (st := []) dX2_readBook_106 lkX2_50 kX8_fail vX8_fail (gFit_m (by decide)) hT.1 rfl rfl (Nat.le_of_ble_eq_true rfl) (Nat.zero_le _) (Nat.zero_le _) rfl ?_
          refine c_fail hT hs1.1 (fun V8 ht8 hf8 => ?_)
          show gX l E _ 109 [some (ga D), some (ga T), some (ga B), some (gi r.1), n5, j5] [gi 0] (K, R, V8) _ _
          refine gX_pop dX2_readBook_109 rfl ?_
          refine gX_vret dX2_readBook_110 rfl ?_
          have e : rdE r = _ := if_pos ⟨by omega, by omega⟩
          rw [e] at hq
          exact hq V8 (hs1.told hd1 hd2 ht8 hf8) (hf1.trans hf8.br)
  have lp : ∀ (jj : Nat) (n : Int) (st : Int) (s : bR) (j5 : Option gV) (V1 : Int → Int → Int) (bc bs : Nat), (320 : Int) - n < (jj : Int) → 0 ≤ n → n ≤ 320 → 0 ≤ s.1.1 → s.1.1 ≤ ys.length → brIs V1 D T B ys s → brF V V1 D T B → (∀ V', brIs V' D T B ys (rdE (rdB ys (320 - n).toNat st s)) → brF V V' D T B → Q none (K, R, V')) → gX l E (gFm E (d + 5) iX2_readBook Q) 23 [some (ga D), some (ga T), some (ga B), some (gi st), some (gi n), j5] [] (K, R, V1) bc bs := by
    intro jj
    induction jj with
    | zero =>
      intro n st s j5 V1 bc bs hj q0 q1 q2 q3 hs1 hf1 hq2
      exfalso; omega
    | succ jj ih =>
      intro n st s j5 V1 bc bs hj q0 q1 q2 q3 hs1 hf1 hq2
      have hp := pkB_in q2 q3
      have hp2 := pkB_in (ys := ys) (a := pkB ys s.1.1) (by omega) hp.2
      refine gX_iload dX2_readBook_23 rfl ?_
      refine gX_sipush dX2_readBook_25 (by decide) ⟨by decide, by decide⟩ ?_
      refine gX_icmpge (tgt := 81) dX2_readBook_28 (by decide) (fun w1 => ?_) (fun w1 => ?_)
      · by_cases ck : n < 320
        · have ek : (320 - n).toNat = (320 - (n + 1)).toNat + 1 := by omega
          have e1 : rdB ys (320 - n).toNat st s = (0, s) := by
            rw [ek]
            show (if _ then _ else if _ then _ else _) = _
            rw [if_pos (by omega)]
          rw [e1] at hq2
          have e3 : st = 0 := by omega
          subst e3
          exact tE V1 (0, s) _ _ _ _ hs1 hf1 hq2
        · have ei : (320 - n).toNat = 0 := by omega
          rw [ei] at hq2
          exact tE V1 (st, s) _ _ _ _ hs1 hf1 hq2
      · refine gX_iloadn dX2_readBook_31 rfl ?_
        refine gX_ifeq (tgt := 81) dX2_readBook_32 (by decide) (fun w2 => ?_) (fun w2 => ?_)
        · by_cases ck : n < 320
          · have ek : (320 - n).toNat = (320 - (n + 1)).toNat + 1 := by omega
            have e1 : rdB ys (320 - n).toNat st s = (0, s) := by
              rw [ek]
              show (if _ then _ else if _ then _ else _) = _
              rw [if_pos (by omega)]
            rw [e1] at hq2
            have e3 : st = 0 := by omega
            subst e3
            exact tE V1 (0, s) _ _ _ _ hs1 hf1 hq2
          · have ei : (320 - n).toNat = 0 := by omega
            rw [ei] at hq2
            exact tE V1 (st, s) _ _ _ _ hs1 hf1 hq2
        · refine gX_aloadn dX2_readBook_35 rfl ?_
          refine gX_virt (J := iX8_peek) (av := []) (a := T) (st := []) dX2_readBook_36 lkX2_31 kX8_peek vX8_peek (gFit_m (by decide)) hT.1 rfl rfl (Nat.le_of_ble_eq_true rfl) (Nat.zero_le _) (Nat.zero_le _) rfl ?_
          refine c_peek hT hs1.1 q2 q3 (fun V2 ht2 hf2 => ?_)
          show gX l E _ 39 [some (ga D), some (ga T), some (ga B), some (gi st), some (gi n), j5] [gi (lat ys (pkB ys s.1.1))] (K, R, V2) _ _
          have h2 := hs1.told hd1 hd2 ht2 hf2
          refine gX_iconst dX2_readBook_39 ⟨by decide, by decide⟩ ?_
          refine gX_icmpeq (tgt := 81) dX2_readBook_40 (by decide) (fun w3 => ?_) (fun w3 => ?_)
          · have ek : (320 - n).toNat = (320 - (n + 1)).toNat + 1 := by omega
            have e1 : rdB ys (320 - n).toNat st s = (st, ((pkB ys s.1.1), s.1.2), s.2) := by
              rw [ek]
              show (if _ then _ else if _ then _ else _) = _
              rw [if_neg (by omega), if_pos (by omega)]
            rw [e1] at hq2
            exact tE V2 (st, ((pkB ys s.1.1), s.1.2), s.2) _ _ _ _ h2 (hf1.trans hf2.br) hq2
          · refine gX_aloadn dX2_readBook_43 rfl ?_
            refine gX_virt (J := iX8_peek) (av := []) (a := T) (st := []) dX2_readBook_44 lkX2_31 kX8_peek vX8_peek (gFit_m (by decide)) hT.1 rfl rfl (Nat.le_of_ble_eq_true rfl) (Nat.zero_le _) (Nat.zero_le _) rfl ?_
            refine c_peek hT ht2 (by show 0 ≤ pkB ys s.1.1; omega) hp.2 (fun V3 ht3 hf3 => ?_)
            show gX l E _ 47 [some (ga D), some (ga T), some (ga B), some (gi st), some (gi n), j5] [gi (lat ys (pkB ys (pkB ys s.1.1)))] (K, R, V3) _ _
            have h3 : brIs V3 D T B ys (pk2 ys s) := h2.told hd1 hd2 ht3 hf3
            refine gX_istore dX2_readBook_47 (show (5 : Nat) < 6 from by decide) (ls2 := [some (ga D), some (ga T), some (ga B), some (gi st), some (gi n), some (gi (lat ys (pkB ys (pkB ys s.1.1))))]) rfl ?_
            refine gX_iload dX2_readBook_49 rfl ?_
            refine gX_stat (J := iX8_isFigure) (av := [gi (lat ys (pkB ys (pkB ys s.1.1)))]) (st := []) dX2_readBook_51 lkX2_35 kX8_isFigure sX8_isFigure (gFit_m (by decide)) rfl (Nat.le_of_ble_eq_true rfl) (Nat.zero_le _) (Nat.zero_le _) rfl ?_
            refine c_isFigure ?_
            show gX l E _ 54 [some (ga D), some (ga T), some (ga B), some (gi st), some (gi n), some (gi (lat ys (pkB ys (pkB ys s.1.1))))] [gi (b2i (isF (lat ys (pkB ys (pkB ys s.1.1)))))] (K, R, V3) _ _
            refine gX_ifeq (tgt := 66) dX2_readBook_54 (by decide) (fun w4 => ?_) (fun w4 => ?_)
            · refine gX_aloadn dX2_readBook_66 rfl ?_
              refine gX_iload dX2_readBook_67 rfl ?_
              refine gX_aloadn dX2_readBook_69 rfl ?_
              refine gX_aloadn dX2_readBook_70 rfl ?_
              refine gX_virt (J := iX2_readSign) (av := [gi (lat ys (pkB ys (pkB ys s.1.1))), ga T, ga B]) (a := D) (st := []) dX2_readBook_71 lkX2_43 kX2_readSign vX2_readSign (gFit_m (by decide)) hD rfl rfl (Nat.le_of_ble_eq_true rfl) (Nat.zero_le _) (Nat.zero_le _) rfl ?_
              refine c_readSign hD hT hB hd1 hd2 h3 (by show 0 ≤ pkB ys (pkB ys s.1.1); omega) hp2.2 (fun V4 hs4 hf4 => ?_)
              show gX l E _ 74 [some (ga D), some (ga T), some (ga B), some (gi st), some (gi n), some (gi (lat ys (pkB ys (pkB ys s.1.1))))] [gi ((rdSign ys (lat ys (pkB ys (pkB ys s.1.1))) (pk2 ys s)).1)] (K, R, V4) _ _
              refine gX_istoren dX2_readBook_74 (show (3 : Nat) < 6 from by decide) (ls2 := [some (ga D), some (ga T), some (ga B), some (gi ((rdSign ys (lat ys (pkB ys (pkB ys s.1.1))) (pk2 ys s)).1)), some (gi n), some (gi (lat ys (pkB ys (pkB ys s.1.1))))]) rfl ?_
              refine gX_iinc dX2_readBook_75 rfl (show (4 : Nat) < 6 from by decide) ⟨by omega, by omega⟩ (ls2 := [some (ga D), some (ga T), some (ga B), some (gi ((rdSign ys (lat ys (pkB ys (pkB ys s.1.1))) (pk2 ys s)).1)), some (gi (n + 1)), some (gi (lat ys (pkB ys (pkB ys s.1.1))))]) rfl ?_
              refine gX_goto (tgt := 23) dX2_readBook_78 (by decide) ?_
              have es : rdSt ys s = rdSign ys (lat ys (pkB ys (pkB ys s.1.1))) (pk2 ys s) := if_neg (by rw [b2i_0 (b := isF (lat ys (pkB ys (pkB ys s.1.1)))) (by assumption)]; decide)
              have ek : (320 - n).toNat = (320 - (n + 1)).toNat + 1 := by omega
              have e1 : rdB ys (320 - n).toNat st s = rdB ys (320 - (n + 1)).toNat (rdSt ys s).1 (rdSt ys s).2 := by
                rw [ek]
                show (if _ then _ else if _ then _ else _) = _
                rw [if_neg (by omega), if_neg (by omega)]
              rw [e1] at hq2
              have hat := rdSt_at q2 q3
              rw [es] at hq2 hat
              exact ih (n + 1) _ _ _ V4 _ _ (by omega) (by omega) (by omega) hat.1 hat.2 hs4 (hf1.trans (hf2.br.trans (hf3.br.trans hf4))) hq2
            · refine gX_aloadn dX2_readBook_57 rfl ?_
              refine gX_aloadn dX2_readBook_58 rfl ?_
              refine gX_aloadn dX2_readBook_59 rfl ?_
              refine gX_virt (J := iX2_readWord) (av := [ga T, ga B]) (a := D) (st := []) dX2_readBook_60 lkX2_39 kX2_readWord vX2_readWord (gFit_m (by decide)) hD rfl rfl (Nat.le_of_ble_eq_true rfl) (Nat.zero_le _) (Nat.zero_le _) rfl ?_
              refine c_readWord hD hT hB hd1 hd2 h3 (by show 0 ≤ pkB ys (pkB ys s.1.1); omega) hp2.2 (fun V4 hs4 hf4 => ?_)
              show gX l E _ 63 [some (ga D), some (ga T), some (ga B), some (gi st), some (gi n), some (gi (lat ys (pkB ys (pkB ys s.1.1))))] [gi ((rdWord ys (pk2 ys s)).1)] (K, R, V4) _ _
              refine gX_goto (tgt := 74) dX2_readBook_63 (by decide) ?_
              refine gX_istoren dX2_readBook_74 (show (3 : Nat) < 6 from by decide) (ls2 := [some (ga D), some (ga T), some (ga B), some (gi ((rdWord ys (pk2 ys s)).1)), some (gi n), some (gi (lat ys (pkB ys (pkB ys s.1.1))))]) rfl ?_
              refine gX_iinc dX2_readBook_75 rfl (show (4 : Nat) < 6 from by decide) ⟨by omega, by omega⟩ (ls2 := [some (ga D), some (ga T), some (ga B), some (gi ((rdWord ys (pk2 ys s)).1)), some (gi (n + 1)), some (gi (lat ys (pkB ys (pkB ys s.1.1))))]) rfl ?_
              refine gX_goto (tgt := 23) dX2_readBook_78 (by decide) ?_
              have es : rdSt ys s = rdWord ys (pk2 ys s) := if_pos (b2i_1 (by assumption))
              have ek : (320 - n).toNat = (320 - (n + 1)).toNat + 1 := by omega
              have e1 : rdB ys (320 - n).toNat st s = rdB ys (320 - (n + 1)).toNat (rdSt ys s).1 (rdSt ys s).2 := by
                rw [ek]
                show (if _ then _ else if _ then _ else _) = _
                rw [if_neg (by omega), if_neg (by omega)]
              rw [e1] at hq2
              have hat := rdSt_at q2 q3
              rw [es] at hq2 hat
              exact ih (n + 1) _ _ _ V4 _ _ (by omega) (by omega) (by omega) hat.1 hat.2 hs4 (hf1.trans (hf2.br.trans (hf3.br.trans hf4))) hq2
  refine gX_aloadn dX2_readBook_0 rfl ?_
  refine gX_virt (J := iX8_begin) (av := []) (a := T) (st := []) dX2_readBook_1 lkX2_21 kX8_begin vX8_begin (gFit_m (by decide)) hT.1 rfl rfl (Nat.le_of_ble_eq_true rfl) (Nat.zero_le _) (Nat.zero_le _) rfl ?_
  refine c_begin hT ht (fun V1 ht1 hf1 => ?_)
  show gX l E _ 4 [some (ga D), some (ga T), some (ga B), none, none, none] [] (K, R, V1) _ _
  refine gX_aloadn dX2_readBook_4 rfl ?_
  refine gX_virt (J := iX1_clear) (av := []) (a := B) (st := []) dX2_readBook_5 lkX2_26 kX1_clear vX1_clear (gFit_m (by decide)) hB.1 rfl rfl (Nat.le_of_ble_eq_true rfl) (Nat.zero_le _) (Nat.zero_le _) rfl ?_
  refine c_bkClear hB (fun V2 hb2 hm2 hf2 => ?_)
  show gX l E _ 8 [some (ga D), some (ga T), some (ga B), none, none, none] [] (K, R, V2) _ _
  refine gX_aloadn dX2_readBook_8 rfl ?_
  refine gX_iconst dX2_readBook_9 ⟨by decide, by decide⟩ ?_
  refine gX_pI 0 dX2_readBook_10 fdX2_11 fpX2_11 rfl (Or.inl rfl) hD ?_
  refine gX_aloadn dX2_readBook_13 rfl ?_
  refine gX_iconst dX2_readBook_14 ⟨by decide, by decide⟩ ?_
  refine gX_pI 1 dX2_readBook_15 fdX2_15 fpX2_15 rfl (Or.inl rfl) hD ?_
  refine gX_iconst dX2_readBook_18 ⟨by decide, by decide⟩ ?_
  refine gX_istoren dX2_readBook_19 (show (3 : Nat) < 6 from by decide) (ls2 := [some (ga D), some (ga T), some (ga B), some (gi 1), none, none]) rfl ?_
  refine gX_iconst dX2_readBook_20 ⟨by decide, by decide⟩ ?_
  refine gX_istore dX2_readBook_21 (show (4 : Nat) < 6 from by decide) (ls2 := [some (ga D), some (ga T), some (ga B), some (gi 1), some (gi 0), none]) rfl ?_
  refine lp 321 0 1 ((0, 0, 0, -1), [], [], 0, -1, V D 2) none (gup (gup V2 D 0 0) D 1 (-1)) _ _ (by omega) (by omega) (by omega) (Int.le_refl 0) (by show (0 : Int) ≤ ys.length; omega) ⟨?_, ?_, ?_, ?_⟩ (fun a g1 g2 g3 => by rw [gup_ne g1, gup_ne g1, hf2 a (by omega), hf1 a g2]) hQ
  · exact (ht1.kept (hf2 _ (by omega)) (hf2 _ (by omega)) (hf2 _ (by omega))).kept ((gup_ne (by omega)).trans (gup_ne (by omega))) ((gup_ne (by omega)).trans (gup_ne (by omega))) ((gup_ne (by omega)).trans (gup_ne (by omega)))
  · exact hb2.kept (fun a g1 g2 => by rw [gup_ne (by omega), gup_ne (by omega)])
  · exact hm2.kept (fun a g1 g2 => by rw [gup_ne (by omega), gup_ne (by omega)])
  · exact ⟨by rw [gup_o (Or.inr (by omega))]; exact gup_s, gup_s, by rw [gup_o (Or.inr (by omega)), gup_o (Or.inr (by omega)), hf2 D (by omega), hf1 D (by omega)]⟩
end READER2
