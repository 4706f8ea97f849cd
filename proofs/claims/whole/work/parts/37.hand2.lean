/-! HandReader: clauses. Written by wip/whole/tools/mk_hand2.py. -/
/-- a hand being read: the told text, then the hand -/
abbrev hR : Type := tS × List Int × List Int × List Int × List Int × Int × Int
def hrIs (V : Int → Int → Int) (T H : Int) (ys : List Int) (s : hR) : Prop := toIs V T ys s.1 ∧ hdIs V H s.2.1 s.2.2.1 s.2.2.2.1 s.2.2.2.2.1 s.2.2.2.2.2.1 s.2.2.2.2.2.2
def hrF (V V' : Int → Int → Int) (T H : Int) : Prop := ∀ a, a ≠ T → (a < H ∨ H + 9 ≤ a) → V' a = V a
theorem hrF.trans {V V1 V2 : Int → Int → Int} {T H : Int} (h : hrF V V1 T H) (h2 : hrF V1 V2 T H) : hrF V V2 T H := fun a h3 h4 => (h2 a h3 h4).trans (h a h3 h4)
theorem oFr.hr {V V1 : Int → Int → Int} {T H : Int} (h : oFr V V1 T) : hrF V V1 T H := fun a h3 _ => h a h3
theorem hrIs.told {V V1 : Int → Int → Int} {T H : Int} {ys : List Int} {s : hR} {t : tS} (h : hrIs V T H ys s) (hd : H + 9 ≤ T) (ht : toIs V1 T ys t) (hf : oFr V V1 T) : hrIs V1 T H ys (t, s.2) := ⟨ht, h.2.fr (hf.fr (lo := T) (hi := T + 1) (by omega) (by omega)) (by omega)⟩
def hF (n x : Int) (s : hR) : hR := ((s.1.1, s.1.2.1, n, x), s.2)
def rf1 (ys : List Int) (s : hR) : Int × tS := tkNum ys 0 63 s.1
def rf2 (ys : List Int) (s : hR) : Int × tS := tkNum ys 0 63 (rf1 ys s).2
def rf3 (ys : List Int) (s : hR) : Int × tS := tkNum ys 1 99 (rf2 ys s).2
def rdFor (ys : List Int) (s : hR) : Int × hR := if (rf1 ys s).1 = -1 then (0, (rf1 ys s).2, s.2) else if (rf1 ys s).1 ∈ s.2.1 then (0, hF 3 (rf1 ys s).2.2.1 ((rf1 ys s).2, s.2)) else if (rf2 ys s).1 = -1 then (0, (rf2 ys s).2, s.2) else if (rf2 ys s).1 = (rf1 ys s).1 then (0, hF 3 (rf2 ys s).2.2.1 ((rf2 ys s).2, s.2)) else if (rf3 ys s).1 = -1 then (0, (rf3 ys s).2, s.2) else (1, (rf3 ys s).2, ladd 4 s.2.1 (rf1 ys s).1, ladd 4 s.2.2.1 (rf2 ys s).1, ladd 4 s.2.2.2.1 (rf3 ys s).1, s.2.2.2.2)
section HAND2
variable {l : Launch} {E : gE} {d : Nat} {K : List gK} {R V : Int → Int → Int} {T H : Int} {Q : gQ} {ys : List Int} {s : hR}
set_option maxRecDepth 4000 in
theorem c_readFor (hT : toK K R T) (hH : hdK K R H) (hd1 : H + 9 ≤ T) (hs : hrIs V T H ys s) (h0 : 0 ≤ s.1.1) (hl : s.1.1 ≤ ys.length) (hQ : ∀ V', hrIs V' T H ys (rdFor ys s).2 → hrF V V' T H → Q (some (gi (rdFor ys s).1)) (K, R, V')) : gC l E (d + 4) iX5_readFor [ga T, ga H] (K, R, V) Q := by
  refine gC_of kX5_readFor (ls := [some (ga T), some (ga H), none, none, none]) rfl (Nat.le_of_ble_eq_true rfl) ?_
  have a1 : 0 ≤ (rf1 ys s).2.1 ∧ (rf1 ys s).2.1 ≤ ys.length := tkNum_at h0 hl
  have a2 : 0 ≤ (rf2 ys s).2.1 ∧ (rf2 ys s).2.1 ≤ ys.length := tkNum_at a1.1 a1.2
  refine gX_aloadn dX5_readFor_0 rfl ?_
  refine gX_iconst dX5_readFor_1 ⟨by decide, by decide⟩ ?_
  refine gX_bipush dX5_readFor_2 (by decide) ⟨by decide, by decide⟩ ?_
  refine gX_virt (J := iX8_takeNumber) (av := [gi 0, gi 63]) (a := T) (st := []) dX5_readFor_4 lkX5_78 kX8_takeNumber vX8_takeNumber (gFit_m (by decide)) hT.1 rfl rfl (Nat.le_of_ble_eq_true rfl) (Nat.zero_le _) (Nat.zero_le _) rfl ?_
  refine c_takeNumber hT hs.1 h0 hl (fun V1 ht1 hf1 => ?_)
  show gX l E _ 7 [some (ga T), some (ga H), none, none, none] [gi ((rf1 ys s).1)] (K, R, V1) _ _
  have h1 : hrIs V1 T H ys ((rf1 ys s).2, s.2) := hs.told hd1 ht1 hf1
  refine gX_istoren dX5_readFor_7 (show (2 : Nat) < 5 from by decide) (ls2 := [some (ga T), some (ga H), some (gi ((rf1 ys s).1)), none, none]) rfl ?_
  refine gX_iloadn dX5_readFor_8 rfl ?_
  refine gX_iconst dX5_readFor_9 ⟨by decide, by decide⟩ ?_
  refine gX_icmpne (tgt := 15) dX5_readFor_10 (by decide) (fun w1 => ?_) (fun w1 => ?_)
  · refine gX_aloadn dX5_readFor_15 rfl ?_
    refine gX_gR 0 dX5_readFor_16 fdX5_82 rfl rfl hH.1 hH.2.1 ?_
    refine gX_iloadn dX5_readFor_19 rfl ?_
    refine gX_virt (J := iX6_holds) (av := [gi ((rf1 ys s).1)]) (a := (H + 1)) (st := []) dX5_readFor_20 lkX5_86 kX6_holds vX6_holds (gFit_m (by decide)) hH.2.2.2.2.2.1.1 rfl rfl (Nat.le_of_ble_eq_true rfl) (Nat.zero_le _) (Nat.zero_le _) rfl ?_
    refine q_Row_holds hH.2.2.2.2.2.1 h1.2.1 ?_
    show gX l E _ 23 [some (ga T), some (ga H), some (gi ((rf1 ys s).1)), none, none] [gi (if (rf1 ys s).1 ∈ s.2.1 then 1 else 0)] (K, R, V1) _ _
    refine gX_ifeq (tgt := 36) dX5_readFor_23 (by decide) (fun w2 => ?_) (fun w2 => ?_)
    · have hm : (rf1 ys s).1 ∉ s.2.1 := fun c => by rw [if_pos c] at *; omega
      refine gX_aloadn dX5_readFor_36 rfl ?_
      refine gX_iconst dX5_readFor_37 ⟨by decide, by decide⟩ ?_
      refine gX_bipush dX5_readFor_38 (by decide) ⟨by decide, by decide⟩ ?_
      refine gX_virt (J := iX8_takeNumber) (av := [gi 0, gi 63]) (a := T) (st := []) dX5_readFor_40 lkX5_78 kX8_takeNumber vX8_takeNumber (gFit_m (by decide)) hT.1 rfl rfl (Nat.le_of_ble_eq_true rfl) (Nat.zero_le _) (Nat.zero_le _) rfl ?_
      refine c_takeNumber hT h1.1 a1.1 a1.2 (fun V2 ht2 hf2 => ?_)
      show gX l E _ 43 [some (ga T), some (ga H), some (gi ((rf1 ys s).1)), none, none] [gi ((rf2 ys s).1)] (K, R, V2) _ _
      have h2 : hrIs V2 T H ys ((rf2 ys s).2, s.2) := h1.told hd1 ht2 hf2
      refine gX_istoren dX5_readFor_43 (show (3 : Nat) < 5 from by decide) (ls2 := [some (ga T), some (ga H), some (gi ((rf1 ys s).1)), some (gi ((rf2 ys s).1)), none]) rfl ?_
      refine gX_iloadn dX5_readFor_44 rfl ?_
      refine gX_iconst dX5_readFor_45 ⟨by decide, by decide⟩ ?_
      refine gX_icmpne (tgt := 51) dX5_readFor_46 (by decide) (fun w3 => ?_) (fun w3 => ?_)
      · refine gX_iloadn dX5_readFor_51 rfl ?_
        refine gX_iloadn dX5_readFor_52 rfl ?_
        refine gX_icmpne (tgt := 66) dX5_readFor_53 (by decide) (fun w4 => ?_) (fun w4 => ?_)
        · refine gX_aloadn dX5_readFor_66 rfl ?_
          refine gX_iconst dX5_readFor_67 ⟨by decide, by decide⟩ ?_
          refine gX_bipush dX5_readFor_68 (by decide) ⟨by decide, by decide⟩ ?_
          refine gX_virt (J := iX8_takeNumber) (av := [gi 1, gi 99]) (a := T) (st := []) dX5_readFor_70 lkX5_78 kX8_takeNumber vX8_takeNumber (gFit_m (by decide)) hT.1 rfl rfl (Nat.le_of_ble_eq_true rfl) (Nat.zero_le _) (Nat.zero_le _) rfl ?_
          refine c_takeNumber hT h2.1 a2.1 a2.2 (fun V3 ht3 hf3 => ?_)
          show gX l E _ 73 [some (ga T), some (ga H), some (gi ((rf1 ys s).1)), some (gi ((rf2 ys s).1)), none] [gi ((rf3 ys s).1)] (K, R, V3) _ _
          have h3 : hrIs V3 T H ys ((rf3 ys s).2, s.2) := h2.told hd1 ht3 hf3
          refine gX_istore dX5_readFor_73 (show (4 : Nat) < 5 from by decide) (ls2 := [some (ga T), some (ga H), some (gi ((rf1 ys s).1)), some (gi ((rf2 ys s).1)), some (gi ((rf3 ys s).1))]) rfl ?_
          refine gX_iload dX5_readFor_75 rfl ?_
          refine gX_iconst dX5_readFor_77 ⟨by decide, by decide⟩ ?_
          refine gX_icmpne (tgt := 83) dX5_readFor_78 (by decide) (fun w5 => ?_) (fun w5 => ?_)
          · refine gX_aloadn dX5_readFor_83 rfl ?_
            refine gX_gR 0 dX5_readFor_84 fdX5_82 rfl rfl hH.1 hH.2.1 ?_
            refine gX_iloadn dX5_readFor_87 rfl ?_
            refine gX_virt (J := iX6_add) (av := [gi ((rf1 ys s).1)]) (a := (H + 1)) (st := []) dX5_readFor_88 lkX5_91 kX6_add vX6_add (gFit_m (by decide)) hH.2.2.2.2.2.1.1 rfl rfl (Nat.le_of_ble_eq_true rfl) (Nat.zero_le _) (Nat.zero_le _) rfl ?_
            refine q_Row_add hH.2.2.2.2.2.1 h3.2.1 (fun V4 hx4 hf4 => ?_)
            show gX l E _ 91 [some (ga T), some (ga H), some (gi ((rf1 ys s).1)), some (gi ((rf2 ys s).1)), some (gi ((rf3 ys s).1))] [] (K, R, V4) _ _
            refine gX_aloadn dX5_readFor_91 rfl ?_
            refine gX_gR 1 dX5_readFor_92 fdX5_95 rfl rfl hH.1 hH.2.2.1 ?_
            refine gX_iloadn dX5_readFor_95 rfl ?_
            refine gX_virt (J := iX6_add) (av := [gi ((rf2 ys s).1)]) (a := (H + 3)) (st := []) dX5_readFor_96 lkX5_91 kX6_add vX6_add (gFit_m (by decide)) hH.2.2.2.2.2.2.1.1 rfl rfl (Nat.le_of_ble_eq_true rfl) (Nat.zero_le _) (Nat.zero_le _) rfl ?_
            refine q_Row_add hH.2.2.2.2.2.2.1 (h3.2.2.1.kept (hf4 _ (by omega) (by omega)) (hf4 _ (by omega) (by omega))) (fun V5 hx5 hf5 => ?_)
            show gX l E _ 99 [some (ga T), some (ga H), some (gi ((rf1 ys s).1)), some (gi ((rf2 ys s).1)), some (gi ((rf3 ys s).1))] [] (K, R, V5) _ _
            refine gX_aloadn dX5_readFor_99 rfl ?_
            refine gX_gR 2 dX5_readFor_100 fdX5_98 rfl rfl hH.1 hH.2.2.2.1 ?_
            refine gX_iload dX5_readFor_103 rfl ?_
            refine gX_virt (J := iX6_add) (av := [gi ((rf3 ys s).1)]) (a := (H + 5)) (st := []) dX5_readFor_105 lkX5_91 kX6_add vX6_add (gFit_m (by decide)) hH.2.2.2.2.2.2.2.1.1 rfl rfl (Nat.le_of_ble_eq_true rfl) (Nat.zero_le _) (Nat.zero_le _) rfl ?_
            refine q_Row_add hH.2.2.2.2.2.2.2.1 ((h3.2.2.2.1.kept (hf4 _ (by omega) (by omega)) (hf4 _ (by omega) (by omega))).kept (hf5 _ (by omega) (by omega)) (hf5 _ (by omega) (by omega))) (fun V6 hx6 hf6 => ?_)
            show gX l E _ 108 [some (ga T), some (ga H), some (gi ((rf1 ys s).1)), some (gi ((rf2 ys s).1)), some (gi ((rf3 ys s).1))] [] (K, R, V6) _ _
            refine gX_iconst dX5_readFor_108 ⟨by decide, by decide⟩ ?_
            refine gX_iret dX5_readFor_109 (Or.inr ⟨rfl, Or.inr rfl⟩) ?_
            have e : rdFor ys s = _ := (if_neg (by omega)).trans ((if_neg hm).trans ((if_neg (by omega)).trans ((if_neg (by omega)).trans (if_neg (by omega)))))
            rw [e] at hQ
            refine hQ V6 ⟨?_, ?_, ?_, ?_, ?_, ?_, ?_⟩ (fun a g1 g2 => by rw [hf6 a (by omega) (by omega), hf5 a (by omega) (by omega), hf4 a (by omega) (by omega), hf3 a g1, hf2 a g1, hf1 a g1])
            · exact ((h3.1.kept (hf4 _ (by omega) (by omega)) (hf4 _ (by omega) (by omega)) (hf4 _ (by omega) (by omega))).kept (hf5 _ (by omega) (by omega)) (hf5 _ (by omega) (by omega)) (hf5 _ (by omega) (by omega))).kept (hf6 _ (by omega) (by omega)) (hf6 _ (by omega) (by omega)) (hf6 _ (by omega) (by omega))
            · exact (hx4.kept (hf5 _ (by omega) (by omega)) (hf5 _ (by omega) (by omega))).kept (hf6 _ (by omega) (by omega)) (hf6 _ (by omega) (by omega))
            · exact hx5.kept (hf6 _ (by omega) (by omega)) (hf6 _ (by omega) (by omega))
            · exact hx6
            · exact ((h3.2.2.2.2.1.kept (hf4 _ (by omega) (by omega)) (hf4 _ (by omega) (by omega))).kept (hf5 _ (by omega) (by omega)) (hf5 _ (by omega) (by omega))).kept (hf6 _ (by omega) (by omega)) (hf6 _ (by omega) (by omega))
            · rw [hf6 _ (by omega) (by omega), hf5 _ (by omega) (by omega), hf4 _ (by omega) (by omega)]; exact h3.2.2.2.2.2.1
            · rw [hf6 _ (by omega) (by omega), hf5 _ (by omega) (by omega), hf4 _ (by omega) (by omega)]; exact h3.2.2.2.2.2.2
          · refine gX_iconst dX5_readFor_81 ⟨by decide, by decide⟩ ?_
            refine gX_iret dX5_readFor_82 (Or.inr ⟨rfl, Or.inl rfl⟩) ?_
            have e : rdFor ys s = _ := (if_neg (by omega)).trans ((if_neg hm).trans ((if_neg (by omega)).trans ((if_neg (by omega)).trans (if_pos (by omega)))))
            rw [e] at hQ
            exact hQ V3 h3 ((hf1.hr.trans hf2.hr).trans hf3.hr)
        · refine gX_aloadn dX5_readFor_56 rfl ?_
          refine gX_iconst dX5_readFor_57 ⟨by decide, by decide⟩ ?_
          refine gX_aloadn dX5_readFor_58 rfl ?_
          refine gX_gI 2 dX5_readFor_59 fdX5_36 rfl (Or.inl rfl) hT.1 ?_
          rw [show V2 T 2 = (rf2 ys s).2.2.1 from h2.1.2.1]
          refine gX_virt (J := iX8_fail) (av := [gi 3, gi ((rf2 ys s).2.2.1)]) (a := T) (st := []) dX5_readFor_62 lkX5_40 kX8_fail vX8_fail (gFit_m (by decide)) hT.1 rfl rfl (Nat.le_of_ble_eq_true rfl) (Nat.zero_le _) (Nat.zero_le _) rfl ?_
          refine c_fail hT h2.1 (fun V8 ht8 hf8 => ?_)
          show gX l E _ 65 [some (ga T), some (ga H), some (gi ((rf1 ys s).1)), some (gi ((rf2 ys s).1)), none] [gi 0] (K, R, V8) _ _
          refine gX_iret dX5_readFor_65 (Or.inr ⟨rfl, Or.inl rfl⟩) ?_
          have e : rdFor ys s = _ := (if_neg (by omega)).trans ((if_neg hm).trans ((if_neg (by omega)).trans (if_pos (by omega))))
          rw [e] at hQ
          exact hQ V8 (h2.told hd1 ht8 hf8) ((hf1.hr.trans hf2.hr).trans hf8.hr)
      · refine gX_iconst dX5_readFor_49 ⟨by decide, by decide⟩ ?_
        refine gX_iret dX5_readFor_50 (Or.inr ⟨rfl, Or.inl rfl⟩) ?_
        have e : rdFor ys s = _ := (if_neg (by omega)).trans ((if_neg hm).trans (if_pos (by omega)))
        rw [e] at hQ
        exact hQ V2 h2 (hf1.hr.trans hf2.hr)
    · have hm : (rf1 ys s).1 ∈ s.2.1 := by
        by_cases c : (rf1 ys s).1 ∈ s.2.1
        · exact c
        · rw [if_neg c] at *; omega
      refine gX_aloadn dX5_readFor_26 rfl ?_
      refine gX_iconst dX5_readFor_27 ⟨by decide, by decide⟩ ?_
      refine gX_aloadn dX5_readFor_28 rfl ?_
      refine gX_gI 2 dX5_readFor_29 fdX5_36 rfl (Or.inl rfl) hT.1 ?_
      rw [show V1 T 2 = (rf1 ys s).2.2.1 from h1.1.2.1]
      refine gX_virt (J := iX8_fail) (av := [gi 3, gi ((rf1 ys s).2.2.1)]) (a := T) (st := []) dX5_readFor_32 lkX5_40 kX8_fail vX8_fail (gFit_m (by decide)) hT.1 rfl rfl (Nat.le_of_ble_eq_true rfl) (Nat.zero_le _) (Nat.zero_le _) rfl ?_
      refine c_fail hT h1.1 (fun V8 ht8 hf8 => ?_)
      show gX l E _ 35 [some (ga T), some (ga H), some (gi ((rf1 ys s).1)), none, none] [gi 0] (K, R, V8) _ _
      refine gX_iret dX5_readFor_35 (Or.inr ⟨rfl, Or.inl rfl⟩) ?_
      have e : rdFor ys s = _ := (if_neg (by omega)).trans (if_pos hm)
      rw [e] at hQ
      exact hQ V8 (h1.told hd1 ht8 hf8) (hf1.hr.trans hf8.hr)
  · refine gX_iconst dX5_readFor_13 ⟨by decide, by decide⟩ ?_
    refine gX_iret dX5_readFor_14 (Or.inr ⟨rfl, Or.inl rfl⟩) ?_
    have e : rdFor ys s = _ := if_pos (by omega)
    rw [e] at hQ
    exact hQ V1 h1 hf1.hr
end HAND2
