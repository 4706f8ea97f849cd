/-! HandReader: clauses. Written by wip/whole/tools/mk_hand2.py. -/
/-- a hand being read: the told text, then the hand -/
abbrev hR : Type := tS × List Int × List Int × List Int × List Int × Int × Int
def hrIs (V : Int → Int → Int) (T H : Int) (ys : List Int) (s : hR) : Prop := toIs V T ys s.1 ∧ hdIs V H s.2.1 s.2.2.1 s.2.2.2.1 s.2.2.2.2.1 s.2.2.2.2.2.1 s.2.2.2.2.2.2
def hrF (V V' : Int → Int → Int) (T H : Int) : Prop := ∀ a, a ≠ T → (a < H ∨ H + 9 ≤ a) → V' a = V a
theorem hrF.trans {V V1 V2 : Int → Int → Int} {T H : Int} (h : hrF V V1 T H) (h2 : hrF V1 V2 T H) : hrF V V2 T H := fun a h3 h4 => (h2 a h3 h4).trans (h a h3 h4)
theorem oFr.hr {V V1 : Int → Int → Int} {T H : Int} (h : oFr V V1 T) : hrF V V1 T H := fun a h3 _ => h a h3
theorem hrIs.told {V V1 : Int → Int → Int} {T H : Int} {ys : List Int} {s : hR} {t : tS} (h : hrIs V T H ys s) (hd : H + 9 ≤ T) (ht : toIs V1 T ys t) (hf : oFr V V1 T) : hrIs V1 T H ys (t, s.2) := ⟨ht, h.2.fr (hf.fr (lo := T) (hi := T + 1) (by omega) (by omega)) (by omega)⟩
def hF (n x : Int) (s : hR) : hR := ((s.1.1, s.1.2.1, n, x), s.2)
def rf1 (ys : List Int) (s : hR) : Int × tS := tkNum ys 0 63 s.1
def rf2 (ys : List Int) (s : hR) : Int × tS := tkNum ys 0 63 (rf1 ys s).2
def rf3 (ys : List Int) (s : hR) : Int × tS := tkNum ys 1 99 (rf2 ys s).2
def rdFor (ys : List Int) (s : hR) : Int × hR := if (rf1 ys s).1 = -1 then (0, (rf1 ys s).2, s.2) else if (rf1 ys s).1 ∈ s.2.1 then (0, hF 3 (rf1 ys s).2.2.1 ((rf1 ys s).2, s.2)) else if (rf2 ys s).1 = -1 then (0, (rf2 ys s).2, s.2) else if (rf2 ys s).1 = (rf1 ys s).1 then (0, hF 3 (rf2 ys s).2.2.1 ((rf2 ys s).2, s.2)) else if (rf3 ys s).1 = -1 then (0, (rf3 ys s).2, s.2) else (1, (rf3 ys s).2, ladd 4 s.2.1 (rf1 ys s).1, ladd 4 s.2.2.1 (rf2 ys s).1, ladd 4 s.2.2.2.1 (rf3 ys s).1, s.2.2.2.2)
section HAND2
variable {l : Launch} {E : gE} {d : Nat} {K : List gK} {R V : Int → Int → Int} {T H : Int} {Q : gQ} {ys : List Int} {s : hR}
set_option maxRecDepth 4000 in
theorem c_readFor (hT : toK K R T) (hH : hdK K R H) (hd1 : H + 9 ≤ T) (hs : hrIs V T H ys s) (h0 : 0 ≤ s.1.1) (hl : s.1.1 ≤ ys.length) (hQ : ∀ V', hrIs V' T H ys (rdFor ys s).2 → hrF V V' T H → Q (some (gi (rdFor ys s).1)) (K, R, V')) : gC l E (d + 4) iX5_readFor [ga T, ga H] (K, R, V) Q := by
  refine gC_of kX5_readFor (ls := [some (ga T), some (ga H), none, none, none]) rfl (Nat.le_of_ble_eq_true rfl) ?_
  have a1 : 0 ≤ (rf1 ys s).2.1 ∧ (rf1 ys s).2.1 ≤ ys.length := tkNum_at h0 hl
  have a2 : 0 ≤ (rf2 ys s).2.1 ∧ (rf2 ys s).2.1 ≤ ys.length := tkNum_at a1.1 a1.2
  refine gX_aloadn dX5_readFor_0 rfl ?_
  refine gX_iconst dX5_readFor_1 ⟨by decide, by decide⟩ ?_
  refine gX_bipush dX5_readFor_2 (by decide) ⟨by decide, by decide⟩ ?_
  refine gX_virt (J := iX8_takeNumber) (av := [gi 0, gi 63]) (a := T) (st := []) dX5_readFor_4 lkX5_78 kX8_takeNumber vX8_takeNumber (gFit_m (by decide)) hT.1 rfl rfl (Nat.le_of_ble_eq_true rfl) (Nat.zero_le _) (Nat.zero_le _) rfl ?_
  refine c_takeNumber hT hs.1 h0 hl (fun V1 ht1 hf1 => ?_)
  show gX l E _ 7 [some (ga T), some (ga H), none, none, none] [gi ((rf1 ys s).1)] (K, R, V1) _ _
  have h1 : hrIs V1 T H ys ((rf1 ys s).2, s.2) := hs.told hd1 ht1 hf1
  refine gX_istoren dX5_readFor_7 (show (2 : Nat) < 5 from by decide) (ls2 := [some (ga T), some (ga H), some (gi ((rf1 ys s).1)), none, none]) rfl ?_
  refine gX_iloadn dX5_readFor_8 rfl ?_
  refine gX_iconst dX5_readFor_9 ⟨by decide, by decide⟩ ?_
  refine gX_icmpne (tgt := 15) dX5_readFor_10 (by decide) (fun w1 => ?_) (fun w1 => ?_)
  · refine gX_aloadn dX5_readFor_15 rfl ?_
    refine gX_gR 0 dX5_readFor_16 fdX5_82 rfl rfl hH.1 hH.2.1 ?_
    refine gX_iloadn dX5_readFor_19 rfl ?_
    refine gX_virt (J := iX6_holds) (av := [gi ((rf1 ys s).1)]) (a := (H + 1)) (st := []) dX5_readFor_20 lkX5_86 kX6_holds vX6_holds (gFit_m (by decide)) hH.2.2.2.2.2.1.1 rfl rfl (Nat.le_of_ble_eq_true rfl) (Nat.zero_le _) (Nat.zero_le _) rfl ?_
    refine q_Row_holds hH.2.2.2.2.2.1 h1.2.1 ?_
    show gX l E _ 23 [some (ga T), some (ga H), some (gi ((rf1 ys s).1)), none, none] [gi (if (rf1 ys s).1 ∈ s.2.1 then 1 else 0)] (K, R, V1) _ _
    refine gX_ifeq (tgt := 36) dX5_readFor_23 (by decide) (fun w2 => ?_) (fun w2 => ?_)
    · have hm : (rf1 ys s).1 ∉ s.2.1 := fun c => by rw [if_pos c] at *; omega
      refine gX_aloadn dX5_readFor_36 rfl ?_
      refine gX_iconst dX5_readFor_37 ⟨by decide, by decide⟩ ?_
      refine gX_bipush dX5_readFor_38 (by decide) ⟨by decide, by decide⟩ ?_
      refine gX_virt (J := iX8_takeNumber) (av := [gi 0, gi 63]) (a := T) (st := []) dX5_readFor_40 lkX5_78 kX8_takeNumber vX8_takeNumber (gFit_m (by decide)) hT.1 rfl rfl (Nat.le_of_ble_eq_true rfl) (Nat.zero_le _) (Nat.zero_le _) rfl ?_
      refine c_takeNumber hT h1.1 a1.1 a1.2 (fun V2 ht2 hf2 => ?_)
      show gX l E _ 43 [some (ga T), some (ga H), some (gi ((rf1 ys s).1)), none, none] [gi ((rf2 ys s).1)] (K, R, V2) _ _
      have h2 : hrIs V2 T H ys ((rf2 ys s).2, s.2) := h1.told hd1 ht2 hf2
      refine gX_istoren dX5_readFor_43 (show (3 : Nat) < 5 from by decide) (ls2 := [some (ga T), some (ga H), some (gi ((rf1 ys s).1)), some (gi ((rf2 ys s).1)), none]) rfl ?_
      refine gX_iloadn dX5_readFor_44 rfl ?_
      refine gX_iconst dX5_readFor_45 ⟨by decide, by decide⟩ ?_
      refine gX_icmpne (tgt := 51) dX5_readFor_46 (by decide) (fun w3 => ?_) (fun w3 => ?_)
      · refine gX_iloadn dX5_readFor_51 rfl ?_
        refine gX_iloadn dX5_readFor_52 rfl ?_
        refine gX_icmpne (tgt := 66) dX5_readFor_53 (by decide) (fun w4 => ?_) (fun w4 => ?_)
        · refine gX_aloadn dX5_readFor_66 rfl ?_
          refine gX_iconst dX5_readFor_67 ⟨by decide, by decide⟩ ?_
          refine gX_bipush dX5_readFor_68 (by decide) ⟨by decide, by decide⟩ ?_
          refine gX_virt (J := iX8_takeNumber) (av := [gi 1, gi 99]) (a := T) (st := []) dX5_readFor_70 lkX5_78 kX8_takeNumber vX8_takeNumber (gFit_m (by decide)) hT.1 rfl rfl (Nat.le_of_ble_eq_true rfl) (Nat.zero_le _) (Nat.zero_le _) rfl ?_
          refine c_takeNumber hT h2.1 a2.1 a2.2 (fun V3 ht3 hf3 => ?_)
          show gX l E _ 73 [some (ga T), some (ga H), some (gi ((rf1 ys s).1)), some (gi ((rf2 ys s).1)), none] [gi ((rf3 ys s).1)] (K, R, V3) _ _
          have h3 : hrIs V3 T H ys ((rf3 ys s).2, s.2) := h2.told hd1 ht3 hf3
          refine gX_istore dX5_readFor_73 (show (4 : Nat) < 5 from by decide) (ls2 := [some (ga T), some (ga H), some (gi ((rf1 ys s).1)), some (gi ((rf2 ys s).1)), some (gi ((rf3 ys s).1))]) rfl ?_
          refine gX_iload dX5_readFor_75 rfl ?_
          refine gX_iconst dX5_readFor_77 ⟨by decide, by decide⟩ ?_
          refine gX_icmpne (tgt := 83) dX5_readFor_78 (by decide) (fun w5 => ?_) (fun w5 => ?_)
          · refine gX_aloadn dX5_readFor_83 rfl ?_
            refine gX_gR 0 dX5_readFor_84 fdX5_82 rfl rfl hH.1 hH.2.1 ?_
            refine gX_iloadn dX5_readFor_87 rfl ?_
            refine gX_virt (J := iX6_add) (av := [gi ((rf1 ys s).1)]) (a := (H + 1)) (st := []) dX5_readFor_88 lkX5_91 kX6_add vX6_add (gFit_m (by decide)) hH.2.2.2.2.2.1.1 rfl rfl (Nat.le_of_ble_eq_true rfl) (Nat.zero_le _) (Nat.zero_le _) rfl ?_
            refine q_Row_add hH.2.2.2.2.2.1 h3.2.1 (fun V4 hx4 hf4 => ?_)
            show gX l E _ 91 [some (ga T), some (ga H), some (gi ((rf1 ys s).1)), some (gi ((rf2 ys s).1)), some (gi ((rf3 ys s).1))] [] (K, R, V4) _ _
            refine gX_aloadn dX5_readFor_91 rfl ?_
            refine gX_gR 1 dX5_readFor_92 fdX5_95 rfl rfl hH.1 hH.2.2.1 ?_
            refine gX_iloadn dX5_readFor_95 rfl ?_
            refine gX_virt (J := iX6_add) (av := [gi ((rf2 ys s).1)]) (a := (H + 3)) (st := []) dX5_readFor_96 lkX5_91 kX6_add vX6_add (gFit_m (by decide)) hH.2.2.2.2.2.2.1.1 rfl rfl (Nat.le_of_ble_eq_true rfl) (Nat.zero_le _) (Nat.zero_le _) rfl ?_
            refine q_Row_add hH.2.2.2.2.2.2.1 (h3.2.2.1.kept (hf4 _ (by omega) (by omega)) (hf4 _ (by omega) (by omega))) (fun V5 hx5 hf5 => ?_)
            show gX l E _ 99 [some (ga T), some (ga H), some (gi ((rf1 ys s).1)), some (gi ((rf2 ys s).1)), some (gi ((rf3 ys s).1))] [] (K, R, V5) _ _
            refine gX_aloadn dX5_readFor_99 rfl ?_
            refine gX_gR 2 dX5_readFor_100 fdX5_98 rfl rfl hH.1 hH.2.2.2.1 ?_
            refine gX_iload dX5_readFor_103 rfl ?_
            refine gX_virt (J := iX6_add) (av := [gi ((rf3 ys s).1)]) (a := (H + 5)) (st := []) dX5_readFor_105 lkX5_91 kX6_add vX6_add (gFit_m (by decide)) hH.2.2.2.2.2.2.2.1.1 rfl rfl (Nat.le_of_ble_eq_true rfl) (Nat.zero_le _) (Nat.zero_le _) rfl ?_
            refine q_Row_add hH.2.2.2.2.2.2.2.1 ((h3.2.2.2.1.kept (hf4 _ (by omega) (by omega)) (hf4 _ (by omega) (by omega))).kept (hf5 _ (by omega) (by omega)) (hf5 _ (by omega) (by omega))) (fun V6 hx6 hf6 => ?_)
            show gX l E _ 108 [some (ga T), some (ga H), some (gi ((rf1 ys s).1)), some (gi ((rf2 ys s).1)), some (gi ((rf3 ys s).1))] [] (K, R, V6) _ _
            refine gX_iconst dX5_readFor_108 ⟨by decide, by decide⟩ ?_
            refine gX_iret dX5_readFor_109 (Or.inr ⟨rfl, Or.inr rfl⟩) ?_
            have e : rdFor ys s = _ := (if_neg (by omega)).trans ((if_neg hm).trans ((if_neg (by omega)).trans ((if_neg (by omega)).trans (if_neg (by omega)))))
            rw [e] at hQ
            refine hQ V6 ⟨?_, ?_, ?_, ?_, ?_, ?_, ?_⟩ (fun a g1 g2 => by rw [hf6 a (by omega) (by omega), hf5 a (by omega) (by omega), hf4 a (by omega) (by omega), hf3 a g1, hf2 a g1, hf1 a g1])
            · exact ((h3.1.kept (hf4 _ (by omega) (by omega)) (hf4 _ (by omega) (by omega)) (hf4 _ (by omega) (by omega))).kept (hf5 _ (by omega) (by omega)) (hf5 _ (by omega) (by omega)) (hf5 _ (by omega) (by omega))).kept (hf6 _ (by omega) (by omega)) (hf6 _ (by omega) (by omega)) (hf6 _ (by omega) (by omega))
            · exact (hx4.kept (hf5 _ (by omega) (by omega)) (hf5 _ (by omega) (by omega))).kept (hf6 _ (by omega) (by omega)) (hf6 _ (by omega) (by omega))
            · exact hx5.kept (hf6 _ (by omega) (by omega)) (hf6 _ (by omega) (by omega))
            · exact hx6
            · exact ((h3.2.2.2.2.1.kept (hf4 _ (by omega) (by omega)) (hf4 _ (by omega) (by omega))).kept (hf5 _ (by omega) (by omega)) (hf5 _ (by omega) (by omega))).kept (hf6 _ (by omega) (by omega)) (hf6 _ (by omega) (by omega))
            · rw [hf6 _ (by omega) (by omega), hf5 _ (by omega) (by omega), hf4 _ (by omega) (by omega)]; exact h3.2.2.2.2.2.1
            · rw [hf6 _ (by omega) (by omega), hf5 _ (by omega) (by omega), hf4 _ (by omega) (by omega)]; exact h3.2.2.2.2.2.2
          · refine gX_iconst dX5_readFor_81 ⟨by decide, by decide⟩ ?_
            refine gX_iret dX5_readFor_82 (Or.inr ⟨rfl, Or.inl rfl⟩) ?_
            have e : rdFor ys s = _ := (if_neg (by omega)).trans ((if_neg hm).trans ((if_neg (by omega)).trans ((if_neg (by omega)).trans (if_pos (by omega)))))
            rw [e] at hQ
            exact hQ V3 h3 ((hf1.hr.trans hf2.hr).trans hf3.hr)
        · refine gX_aloadn dX5_readFor_56 rfl ?_
          refine gX_iconst dX5_readFor_57 ⟨by decide, by decide⟩ ?_
          refine gX_aloadn dX5_readFor_58 rfl ?_
          refine gX_gI 2 dX5_readFor_59 fdX5_36 rfl (Or.inl rfl) hT.1 ?_
          rw [show V2 T 2 = (rf2 ys s).2.2.1 from h2.1.2.1]
          refine gX_virt (J := iX8_fail) (av := [gi 3, gi ((rf2 ys s).2.2.1)]) (a := T) (st := []) dX5_readFor_62 lkX5_40 kX8_fail vX8_fail (gFit_m (by decide)) hT.1 rfl rfl (Nat.le_of_ble_eq_true rfl) (Nat.zero_le _) (Nat.zero_le _) rfl ?_
          refine c_fail hT h2.1 (fun V8 ht8 hf8 => ?_)
          show gX l E _ 65 [some (ga T), some (ga H), some (gi ((rf1 ys s).1)), some (gi ((rf2 ys s).1)), none] [gi 0] (K, R, V8) _ _
          refine gX_iret dX5_readFor_65 (Or.inr ⟨rfl, Or.inl rfl⟩) ?_
          have e : rdFor ys s = _ := (if_neg (by omega)).trans ((if_neg hm).trans ((if_neg (by omega)).trans (if_pos (by omega))))
          rw [e] at hQ
          exact hQ V8 (h2.told hd1 ht8 hf8) ((hf1.hr.trans hf2.hr).trans hf8.hr)
      · refine gX_iconst dX5_readFor_49 ⟨by decide, by decide⟩ ?_
        refine gX_iret dX5_readFor_50 (Or.inr ⟨rfl, Or.inl rfl⟩) ?_
        have e : rdFor ys s = _ := (if_neg (by omega)).trans ((if_neg hm).trans (if_pos (by omega)))
        rw [e] at hQ
        exact hQ V2 h2 (hf1.hr.trans hf2.hr)
    · have hm : (rf1 ys s).1 ∈ s.2.1 := by
        by_cases c : (rf1 ys s).1 ∈ s.2.1
        · exact c
        · rw [if_neg c] at *; omega
      refine gX_aloadn dX5_readFor_26 rfl ?_
      refine gX_iconst dX5_readFor_27 ⟨by decide, by decide⟩ ?_
      refine gX_aloadn dX5_readFor_28 rfl ?_
      refine gX_gI 2 dX5_readFor_29 fdX5_36 rfl (Or.inl rfl) hT.1 ?_
      rw [show V1 T 2 = (rf1 ys s).2.2.1 from h1.1.2.1]
      refine gX_virt (J := iX8_fail) (av := [gi 3, gi ((rf1 ys s).2.2.1)]) (a := T) (st := []) dX5_readFor_32 lkX5_40 kX8_fail vX8_fail (gFit_m (by decide)) hT.1 rfl rfl (Nat.le_of_ble_eq_true rfl) (Nat.zero_le _) (Nat.zero_le _) rfl ?_
      refine c_fail hT h1.1 (fun V8 ht8 hf8 => ?_)
      show gX l E _ 35 [some (ga T), some (ga H), some (gi ((rf1 ys s).1)), none, none] [gi 0] (K, R, V8) _ _
      refine gX_iret dX5_readFor_35 (Or.inr ⟨rfl, Or.inl rfl⟩) ?_
      have e : rdFor ys s = _ := (if_neg (by omega)).trans (if_pos hm)
      rw [e] at hQ
      exact hQ V8 (h1.told hd1 ht8 hf8) (hf1.hr.trans hf8.hr)
  · refine gX_iconst dX5_readFor_13 ⟨by decide, by decide⟩ ?_
    refine gX_iret dX5_readFor_14 (Or.inr ⟨rfl, Or.inl rfl⟩) ?_
    have e : rdFor ys s = _ := if_pos (by omega)
    rw [e] at hQ
    exact hQ V1 h1 hf1.hr
theorem leF_in {ys : List Int} : ∀ (n : Nat) (a : Int), a ≤ ys.length → a ≤ leF ys n a ∧ leF ys n a ≤ ys.length
  | 0, a, h => ⟨Int.le_refl _, h⟩
  | n + 1, a, h => by
    by_cases c : a < ys.length ∧ isL (lat ys a) = true
    · have e : leF ys (n + 1) a = leF ys n (a + 1) := if_pos c
      rw [e]
      have := leF_in (ys := ys) n (a + 1) (by omega)
      omega
    · have e : leF ys (n + 1) a = a := if_neg c
      rw [e]; exact ⟨Int.le_refl _, h⟩
theorem tkLet_at {ys : List Int} {t : tS} (h0 : 0 ≤ t.1) (h1 : t.1 ≤ ys.length) : 0 ≤ (tkLet ys t).1 ∧ (tkLet ys t).1 ≤ ys.length ∧ 0 ≤ (tkLet ys t).2.1 ∧ (tkLet ys t).2.1 ≤ ys.length := by
  have hp := pkB_in h0 h1
  have hf := leF_in (ys := ys) 321 (pkB ys t.1) hp.2
  show 0 ≤ leF ys 321 (pkB ys t.1) ∧ leF ys 321 (pkB ys t.1) ≤ _ ∧ 0 ≤ pkB ys t.1 ∧ pkB ys t.1 ≤ _
  omega
theorem hdIs.rc {V : Int → Int → Int} {H x rc wy : Int} {fr to fe ea : List Int} (h : hdIs V H fr to fe ea rc wy) : hdIs (gup V H 4 x) H fr to fe ea x wy :=
  ⟨h.1.kept (gup_ne (by omega)) (gup_ne (by omega)), h.2.1.kept (gup_ne (by omega)) (gup_ne (by omega)), h.2.2.1.kept (gup_ne (by omega)) (gup_ne (by omega)), h.2.2.2.1.kept (gup_ne (by omega)) (gup_ne (by omega)), gup_s, by rw [gup_o (Or.inr (by omega))]; exact h.2.2.2.2.2⟩
theorem hdIs.wy {V : Int → Int → Int} {H x rc wy : Int} {fr to fe ea : List Int} (h : hdIs V H fr to fe ea rc wy) : hdIs (gup V H 5 x) H fr to fe ea rc x :=
  ⟨h.1.kept (gup_ne (by omega)) (gup_ne (by omega)), h.2.1.kept (gup_ne (by omega)) (gup_ne (by omega)), h.2.2.1.kept (gup_ne (by omega)) (gup_ne (by omega)), h.2.2.2.1.kept (gup_ne (by omega)) (gup_ne (by omega)), by rw [gup_o (Or.inr (by omega))]; exact h.2.2.2.2.1, gup_s⟩
def rh1 (ys : List Int) (c : Int) (s : hR) : hR := if c = 1 then ((tkNum ys 1 20 s.1).2, s.2.1, s.2.2.1, s.2.2.2.1, s.2.2.2.2.1, (tkNum ys 1 20 s.1).1, s.2.2.2.2.2.2) else if c = 3 then (tkLet ys s.1, s.2.1, s.2.2.1, s.2.2.2.1, s.2.2.2.2.1, s.2.2.2.2.2.1, clT ys (tkLet ys s.1) 6 3 0) else s
def rhC (ys : List Int) (c : Int) (u : hR) : Int × hR := (if (tkNum ys 1 99 u.1).1 = -1 then 0 else 1, (tkNum ys 1 99 u.1).2, u.2.1, u.2.2.1, u.2.2.2.1, lput u.2.2.2.2.1 c (tkNum ys 1 99 u.1).1, u.2.2.2.2.2)
def rdHab (ys : List Int) (c : Int) (s : hR) : Int × hR := if c = 1 ∧ (rh1 ys c s).2.2.2.2.2.1 = -1 then (0, rh1 ys c s) else if c = 3 ∧ (rh1 ys c s).2.2.2.2.2.2 = -1 then (0, hF 1 (rh1 ys c s).1.2.1 (rh1 ys c s)) else rhC ys c (rh1 ys c s)
set_option maxRecDepth 4000 in
theorem c_readHabit {c : Int} (hT : toK K R T) (hH : hdK K R H) (hd1 : H + 9 ≤ T) (hs : hrIs V T H ys s) (h0 : 0 ≤ s.1.1) (hl : s.1.1 ≤ ys.length) (hc : 0 ≤ c ∧ c ≤ 5) (hQ : ∀ V', hrIs V' T H ys (rdHab ys c s).2 → hrF V V' T H → Q (some (gi (rdHab ys c s).1)) (K, R, V')) : gC l E (d + 7) iX5_readHabit [gi c, ga T, ga H] (K, R, V) Q := by
  refine gC_of kX5_readHabit (ls := [some (gi c), some (ga T), some (ga H), none]) rfl (Nat.le_of_ble_eq_true rfl) ?_
  have hbl := hs.1.2.2.2.2.2.1
  have tC : ∀ (V1 : Int → Int → Int) (u : hR) (bc bs : Nat), 0 ≤ u.1.1 → u.1.1 ≤ ys.length → hrIs V1 T H ys u → hrF V V1 T H → (∀ V', hrIs V' T H ys (rhC ys c u).2 → hrF V V' T H → Q (some (gi (rhC ys c u).1)) (K, R, V')) → gX l E (gFm E (d + 7) iX5_readHabit Q) 61 [some (gi c), some (ga T), some (ga H), none] [] (K, R, V1) bc bs := by
    intro V1 u bc bs u0 u1 hs1 hf1 hq
    refine gX_aloadn dX5_readHabit_61 rfl ?_
    refine gX_iconst dX5_readHabit_62 ⟨by decide, by decide⟩ ?_
    refine gX_bipush dX5_readHabit_63 (by decide) ⟨by decide, by decide⟩ ?_
    refine gX_virt (J := iX8_takeNumber) (av := [gi 1, gi 99]) (a := T) (st := []) dX5_readHabit_65 lkX5_78 kX8_takeNumber vX8_takeNumber (gFit_m (by decide)) hT.1 rfl rfl (Nat.le_of_ble_eq_true rfl) (Nat.zero_le _) (Nat.zero_le _) rfl ?_
    refine c_takeNumber hT hs1.1 u0 u1 (fun V2 ht2 hf2 => ?_)
    show gX l E _ 68 [some (gi c), some (ga T), some (ga H), none] [gi ((tkNum ys 1 99 u.1).1)] (K, R, V2) _ _
    have h2 : hrIs V2 T H ys ((tkNum ys 1 99 u.1).2, u.2) := hs1.told hd1 ht2 hf2
    refine gX_istoren dX5_readHabit_68 (show (3 : Nat) < 4 from by decide) (ls2 := [some (gi c), some (ga T), some (ga H), some (gi ((tkNum ys 1 99 u.1).1))]) rfl ?_
    refine gX_aloadn dX5_readHabit_69 rfl ?_
    refine gX_gR 3 dX5_readHabit_70 fdX5_110 rfl rfl hH.1 hH.2.2.2.2.1 ?_
    refine gX_iloadn dX5_readHabit_73 rfl ?_
    refine gX_iloadn dX5_readHabit_74 rfl ?_
    refine gX_virt (J := iX6_put) (av := [gi c, gi ((tkNum ys 1 99 u.1).1)]) (a := (H + 7)) (st := []) dX5_readHabit_75 lkX5_113 kX6_put vX6_put (gFit_m (by decide)) hH.2.2.2.2.2.2.2.2.1 rfl rfl (Nat.le_of_ble_eq_true rfl) (Nat.zero_le _) (Nat.zero_le _) rfl ?_
    refine q_Row_put hH.2.2.2.2.2.2.2.2 h2.2.2.2.2.1 (fun V3 hx3 hf3 => ?_)
    show gX l E _ 78 [some (gi c), some (ga T), some (ga H), some (gi ((tkNum ys 1 99 u.1).1))] [] (K, R, V3) _ _
    refine gX_iloadn dX5_readHabit_78 rfl ?_
    refine gX_iconst dX5_readHabit_79 ⟨by decide, by decide⟩ ?_
    refine gX_icmpeq (tgt := 87) dX5_readHabit_80 (by decide) (fun e1 => ?_) (fun e1 => ?_)
    · refine gX_iconst dX5_readHabit_87 ⟨by decide, by decide⟩ ?_
      refine gX_iret dX5_readHabit_88 (Or.inr ⟨rfl, Or.inl rfl⟩) ?_
      have e : (rhC ys c u).1 = 0 := if_pos (by omega)
      rw [e] at hq
      refine hq V3 ⟨?_, ?_, ?_, ?_, ?_, ?_, ?_⟩ (fun a g1 g2 => by rw [hf3 a (by omega) (by omega), hf2 a g1]; exact hf1 a g1 g2)
      · exact h2.1.kept (hf3 _ (by omega) (by omega)) (hf3 _ (by omega) (by omega)) (hf3 _ (by omega) (by omega))
      · exact h2.2.1.kept (hf3 _ (by omega) (by omega)) (hf3 _ (by omega) (by omega))
      · exact h2.2.2.1.kept (hf3 _ (by omega) (by omega)) (hf3 _ (by omega) (by omega))
      · exact h2.2.2.2.1.kept (hf3 _ (by omega) (by omega)) (hf3 _ (by omega) (by omega))
      · exact hx3
      · rw [hf3 _ (by omega) (by omega)]; exact h2.2.2.2.2.2.1
      · rw [hf3 _ (by omega) (by omega)]; exact h2.2.2.2.2.2.2
    · refine gX_iconst dX5_readHabit_83 ⟨by decide, by decide⟩ ?_
      refine gX_goto (tgt := 88) dX5_readHabit_84 (by decide) ?_
      refine gX_iret dX5_readHabit_88 (Or.inr ⟨rfl, Or.inr rfl⟩) ?_
      have e : (rhC ys c u).1 = 1 := if_neg (by omega)
      rw [e] at hq
      refine hq V3 ⟨?_, ?_, ?_, ?_, ?_, ?_, ?_⟩ (fun a g1 g2 => by rw [hf3 a (by omega) (by omega), hf2 a g1]; exact hf1 a g1 g2)
      · exact h2.1.kept (hf3 _ (by omega) (by omega)) (hf3 _ (by omega) (by omega)) (hf3 _ (by omega) (by omega))
      · exact h2.2.1.kept (hf3 _ (by omega) (by omega)) (hf3 _ (by omega) (by omega))
      · exact h2.2.2.1.kept (hf3 _ (by omega) (by omega)) (hf3 _ (by omega) (by omega))
      · exact h2.2.2.2.1.kept (hf3 _ (by omega) (by omega)) (hf3 _ (by omega) (by omega))
      · exact hx3
      · rw [hf3 _ (by omega) (by omega)]; exact h2.2.2.2.2.2.1
      · rw [hf3 _ (by omega) (by omega)]; exact h2.2.2.2.2.2.2
  refine gX_iloadn dX5_readHabit_0 rfl ?_
  refine gX_iconst dX5_readHabit_1 ⟨by decide, by decide⟩ ?_
  refine gX_icmpne (tgt := 26) dX5_readHabit_2 (by decide) (fun m1 => ?_) (fun m1 => ?_)
  · refine gX_iloadn dX5_readHabit_26 rfl ?_
    refine gX_iconst dX5_readHabit_27 ⟨by decide, by decide⟩ ?_
    refine gX_icmpne (tgt := 61) dX5_readHabit_28 (by decide) (fun m2 => ?_) (fun m2 => ?_)
    · have eu : rh1 ys c s = s := (if_neg (by omega)).trans (if_neg (by omega))
      have e : rdHab ys c s = _ := (if_neg (fun z => by omega)).trans (if_neg (fun z => by omega))
      rw [e, eu] at hQ
      exact tC V s _ _ h0 hl hs (fun _ _ _ => rfl) hQ
    · refine gX_aloadn dX5_readHabit_31 rfl ?_
      refine gX_virt (J := iX8_takeLetters) (av := []) (a := T) (st := []) dX5_readHabit_32 lkX5_29 kX8_takeLetters vX8_takeLetters (gFit_m (by decide)) hT.1 rfl rfl (Nat.le_of_ble_eq_true rfl) (Nat.zero_le _) (Nat.zero_le _) rfl ?_
      refine c_takeLetters hT hs.1 h0 hl (fun V1 ht1 hf1 => ?_)
      show gX l E _ 35 [some (gi c), some (ga T), some (ga H), none] [] (K, R, V1) _ _
      have h1 : hrIs V1 T H ys ((tkLet ys s.1), s.2) := hs.told hd1 ht1 hf1
      refine gX_aloadn dX5_readHabit_35 rfl ?_
      refine gX_aloadn dX5_readHabit_36 rfl ?_
      refine gX_stat (J := iX5_wayTold) (av := [ga T]) (st := [ga H]) dX5_readHabit_37 lkX5_104 kX5_wayTold sX5_wayTold (gFit_m (by decide)) rfl (Nat.le_of_ble_eq_true rfl) (Nat.zero_le _) (Nat.zero_le _) rfl ?_
      refine c_wayTold hT ht1 (by have := tkLet_at h0 hl; omega) ?_
      show gX l E _ 40 [some (gi c), some (ga T), some (ga H), none] [gi (clT ys (tkLet ys s.1) 6 3 0), ga H] (K, R, V1) _ _
      refine gX_pI 5 dX5_readHabit_40 fdX5_107 fpX5_107 rfl (Or.inl rfl) hH.1 ?_
      have h3 : hrIs (gup V1 H 5 (clT ys (tkLet ys s.1) 6 3 0)) T H ys ((tkLet ys s.1), s.2.1, s.2.2.1, s.2.2.2.1, s.2.2.2.2.1, s.2.2.2.2.2.1, (clT ys (tkLet ys s.1) 6 3 0)) := ⟨h1.1.kept (gup_ne (by omega)) (gup_ne (by omega)) (gup_ne (by omega)), h1.2.wy⟩
      refine gX_aloadn dX5_readHabit_43 rfl ?_
      refine gX_gI 5 dX5_readHabit_44 fdX5_107 rfl (Or.inl rfl) hH.1 ?_
      rw [gup_s]
      refine gX_iconst dX5_readHabit_47 ⟨by decide, by decide⟩ ?_
      refine gX_icmpne (tgt := 61) dX5_readHabit_48 (by decide) (fun m3 => ?_) (fun m3 => ?_)
      · have eu : rh1 ys c s = ((tkLet ys s.1), s.2.1, s.2.2.1, s.2.2.2.1, s.2.2.2.2.1, s.2.2.2.2.2.1, (clT ys (tkLet ys s.1) 6 3 0)) := (if_neg (by omega)).trans (if_pos (by omega))
        have e : rdHab ys c s = _ := (if_neg (fun z => by omega)).trans (if_neg (fun z => by have z2 := z.2; rw [eu] at z2; have z3 : (clT ys (tkLet ys s.1) 6 3 0) = -1 := z2; omega))
        rw [e, eu] at hQ
        exact tC _ ((tkLet ys s.1), s.2.1, s.2.2.1, s.2.2.2.1, s.2.2.2.2.1, s.2.2.2.2.2.1, (clT ys (tkLet ys s.1) 6 3 0)) _ _ (tkLet_at h0 hl).1 (tkLet_at h0 hl).2.1 h3 (fun a g1 g2 => by rw [gup_ne (by omega), hf1 a g1]) hQ
      · refine gX_aloadn dX5_readHabit_51 rfl ?_
        refine gX_iconst dX5_readHabit_52 ⟨by decide, by decide⟩ ?_
        refine gX_aloadn dX5_readHabit_53 rfl ?_
        refine gX_gI 2 dX5_readHabit_54 fdX5_36 rfl (Or.inl rfl) hT.1 ?_
        rw [show (gup V1 H 5 (clT ys (tkLet ys s.1) 6 3 0)) T 2 = (tkLet ys s.1).2.1 from h3.1.2.1]
        refine gX_virt (J := iX8_fail) (av := [gi 1, gi ((tkLet ys s.1).2.1)]) (a := T) (st := []) dX5_readHabit_57 lkX5_40 kX8_fail vX8_fail (gFit_m (by decide)) hT.1 rfl rfl (Nat.le_of_ble_eq_true rfl) (Nat.zero_le _) (Nat.zero_le _) rfl ?_
        refine c_fail hT h3.1 (fun V8 ht8 hf8 => ?_)
        show gX l E _ 60 [some (gi c), some (ga T), some (ga H), none] [gi 0] (K, R, V8) _ _
        refine gX_iret dX5_readHabit_60 (Or.inr ⟨rfl, Or.inl rfl⟩) ?_
        have eu : rh1 ys c s = ((tkLet ys s.1), s.2.1, s.2.2.1, s.2.2.2.1, s.2.2.2.2.1, s.2.2.2.2.2.1, (clT ys (tkLet ys s.1) 6 3 0)) := (if_neg (by omega)).trans (if_pos (by omega))
        have e : rdHab ys c s = _ := (if_neg (fun z => by omega)).trans (if_pos ⟨by omega, by rw [eu]; (show (clT ys (tkLet ys s.1) 6 3 0) = -1); omega⟩)
        rw [e, eu] at hQ
        exact hQ V8 (h3.told hd1 ht8 hf8) (fun a g1 g2 => by rw [hf8 a g1, gup_ne (by omega), hf1 a g1])
  · refine gX_aloadn dX5_readHabit_5 rfl ?_
    refine gX_aloadn dX5_readHabit_6 rfl ?_
    refine gX_iconst dX5_readHabit_7 ⟨by decide, by decide⟩ ?_
    refine gX_bipush dX5_readHabit_8 (by decide) ⟨by decide, by decide⟩ ?_
    refine gX_virt (J := iX8_takeNumber) (av := [gi 1, gi 20]) (a := T) (st := [ga H]) dX5_readHabit_10 lkX5_78 kX8_takeNumber vX8_takeNumber (gFit_m (by decide)) hT.1 rfl rfl (Nat.le_of_ble_eq_true rfl) (Nat.zero_le _) (Nat.zero_le _) rfl ?_
    refine c_takeNumber hT hs.1 h0 hl (fun V1 ht1 hf1 => ?_)
    show gX l E _ 13 [some (gi c), some (ga T), some (ga H), none] [gi ((tkNum ys 1 20 s.1).1), ga H] (K, R, V1) _ _
    have h1 : hrIs V1 T H ys ((tkNum ys 1 20 s.1).2, s.2) := hs.told hd1 ht1 hf1
    refine gX_pI 4 dX5_readHabit_13 fdX5_101 fpX5_101 rfl (Or.inl rfl) hH.1 ?_
    refine gX_aloadn dX5_readHabit_16 rfl ?_
    refine gX_gI 4 dX5_readHabit_17 fdX5_101 rfl (Or.inl rfl) hH.1 ?_
    rw [gup_s]
    refine gX_iconst dX5_readHabit_20 ⟨by decide, by decide⟩ ?_
    refine gX_icmpne (tgt := 26) dX5_readHabit_21 (by decide) (fun m4 => ?_) (fun m4 => ?_)
    · refine gX_iloadn dX5_readHabit_26 rfl ?_
      refine gX_iconst dX5_readHabit_27 ⟨by decide, by decide⟩ ?_
      refine gX_icmpne (tgt := 61) dX5_readHabit_28 (by decide) (fun m5 => ?_) (fun m5 => ?_)
      · have eu : rh1 ys c s = ((tkNum ys 1 20 s.1).2, s.2.1, s.2.2.1, s.2.2.2.1, s.2.2.2.2.1, (tkNum ys 1 20 s.1).1, s.2.2.2.2.2.2) := if_pos (by omega)
        have e : rdHab ys c s = _ := (if_neg (fun z => by have z2 := z.2; rw [eu] at z2; have z3 : (tkNum ys 1 20 s.1).1 = -1 := z2; omega)).trans (if_neg (fun z => by omega))
        rw [e, eu] at hQ
        exact tC _ ((tkNum ys 1 20 s.1).2, s.2.1, s.2.2.1, s.2.2.2.1, s.2.2.2.2.1, (tkNum ys 1 20 s.1).1, s.2.2.2.2.2.2) _ _ (tkNum_at h0 hl).1 (tkNum_at h0 hl).2 ⟨h1.1.kept (gup_ne (by omega)) (gup_ne (by omega)) (gup_ne (by omega)), h1.2.rc⟩ (fun a g1 g2 => by rw [gup_ne (by omega), hf1 a g1]) hQ
      · refine gX_aloadn dX5_readHabit_31 rfl ?_
        exfalso
        omega
    · refine gX_iconst dX5_readHabit_24 ⟨by decide, by decide⟩ ?_
      refine gX_iret dX5_readHabit_25 (Or.inr ⟨rfl, Or.inl rfl⟩) ?_
      have eu : rh1 ys c s = ((tkNum ys 1 20 s.1).2, s.2.1, s.2.2.1, s.2.2.2.1, s.2.2.2.2.1, (tkNum ys 1 20 s.1).1, s.2.2.2.2.2.2) := if_pos (by omega)
      have e : rdHab ys c s = _ := if_pos ⟨by omega, by rw [eu]; (show (tkNum ys 1 20 s.1).1 = -1); omega⟩
      rw [e, eu] at hQ
      exact hQ _ ⟨h1.1.kept (gup_ne (by omega)) (gup_ne (by omega)) (gup_ne (by omega)), h1.2.rc⟩ (fun a g1 g2 => by rw [gup_ne (by omega), hf1 a g1])
end HAND2
