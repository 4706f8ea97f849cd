/-! HandReader: the whole. Written by wip/whole/tools/mk_hand3.py. -/
theorem rdFor_at {ys : List Int} {s : hR} (h0 : 0 ≤ s.1.1) (h1 : s.1.1 ≤ ys.length) : 0 ≤ (rdFor ys s).2.1.1 ∧ (rdFor ys s).2.1.1 ≤ ys.length := by
  have a1 : 0 ≤ (rf1 ys s).2.1 ∧ (rf1 ys s).2.1 ≤ ys.length := tkNum_at h0 h1
  have a2 : 0 ≤ (rf2 ys s).2.1 ∧ (rf2 ys s).2.1 ≤ ys.length := tkNum_at a1.1 a1.2
  have a3 : 0 ≤ (rf3 ys s).2.1 ∧ (rf3 ys s).2.1 ≤ ys.length := tkNum_at a2.1 a2.2
  unfold rdFor
  (repeat' split) <;> first | exact a1 | exact a2 | exact a3
theorem rh1_at {ys : List Int} {c : Int} {s : hR} (h0 : 0 ≤ s.1.1) (h1 : s.1.1 ≤ ys.length) : 0 ≤ (rh1 ys c s).1.1 ∧ (rh1 ys c s).1.1 ≤ ys.length := by
  have a1 := tkNum_at (lo := 1) (hi := 20) h0 h1
  have a2 := tkLet_at h0 h1
  unfold rh1
  split
  · exact a1
  · split
    · exact ⟨a2.1, a2.2.1⟩
    · exact ⟨h0, h1⟩
theorem rdHab_at {ys : List Int} {c : Int} {s : hR} (h0 : 0 ≤ s.1.1) (h1 : s.1.1 ≤ ys.length) : 0 ≤ (rdHab ys c s).2.1.1 ∧ (rdHab ys c s).2.1.1 ≤ ys.length := by
  have a1 := rh1_at (c := c) h0 h1
  have a2 := tkNum_at (lo := 1) (hi := 99) a1.1 a1.2
  unfold rdHab
  split
  · exact a1
  · split
    · exact a1
    · exact a2
theorem rdFor_01 (ys : List Int) (s : hR) : (rdFor ys s).1 = 0 ∨ (rdFor ys s).1 = 1 := by
  unfold rdFor
  (repeat' split) <;> first | exact Or.inl rfl | exact Or.inr rfl
theorem rdHab_01 (ys : List Int) (c : Int) (s : hR) : (rdHab ys c s).1 = 0 ∨ (rdHab ys c s).1 = 1 := by
  unfold rdHab
  split
  · exact Or.inl rfl
  · split
    · exact Or.inl rfl
    · show (if _ then _ else _ : Int) = 0 ∨ (if _ then _ else _ : Int) = 1
      split
      · exact Or.inl rfl
      · exact Or.inr rfl
theorem clT_in {ys : List Int} {t : tS} {o : Int} : ∀ (n : Nat) (c : Int), 0 ≤ c → clT ys t o n c = -1 ∨ (0 ≤ clT ys t o n c ∧ clT ys t o n c < c + n)
  | 0, _, _ => Or.inl rfl
  | n + 1, c, h => by
    by_cases e : tkIs ys t (o + c).toNat = true
    · have e1 : clT ys t o (n + 1) c = c := if_pos e
      rw [e1]; exact Or.inr ⟨h, by omega⟩
    · have e1 : clT ys t o (n + 1) c = clT ys t o n (c + 1) := if_neg e
      rw [e1]
      have := clT_in (ys := ys) (t := t) (o := o) n (c + 1) (by omega)
      omega
theorem noRm_01 (fr ea : List Int) (c : Int) : noRm fr ea c = 0 ∨ noRm fr ea c = 1 := by unfold noRm; (repeat' split) <;> omega
def clN (ys : List Int) (s : hR) : Int := clT ys (tkLet ys s.1) 0 6 0
def clR (ys : List Int) (s : hR) : Int × hR := if clN ys s = 0 then rdFor ys (tkLet ys s.1, s.2) else rdHab ys (clN ys s) (tkLet ys s.1, s.2)
def rdCl (ys : List Int) (s : hR) : Int × hR := if clN ys s = -1 then (0, hF 1 (tkLet ys s.1).2.1 (tkLet ys s.1, s.2)) else if noRm s.2.1 s.2.2.2.2.1 (clN ys s) = 1 then (0, hF 3 (tkLet ys s.1).2.1 (tkLet ys s.1, s.2)) else if (clR ys s).1 = 0 then (0, (clR ys s).2) else ((tkSig ys 59 (clR ys s).2.1).1, (tkSig ys 59 (clR ys s).2.1).2, (clR ys s).2.2)
section HAND3
variable {l : Launch} {E : gE} {d : Nat} {K : List gK} {R V : Int → Int → Int} {T H : Int} {Q : gQ} {ys : List Int} {s : hR}
set_option maxRecDepth 4000 in
theorem c_readClause (hT : toK K R T) (hH : hdK K R H) (hd1 : H + 9 ≤ T) (hs : hrIs V T H ys s) (h0 : 0 ≤ s.1.1) (hl : s.1.1 ≤ ys.length) (hQ : ∀ V', hrIs V' T H ys (rdCl ys s).2 → hrF V V' T H → Q (some (gi (rdCl ys s).1)) (K, R, V')) : gC l E (d + 8) iX5_readClause [ga T, ga H] (K, R, V) Q := by
  refine gC_of kX5_readClause (ls := [some (ga T), some (ga H), none, none]) rfl (Nat.le_of_ble_eq_true rfl) ?_
  have hbl := hs.1.2.2.2.2.2.1
  have hta := tkLet_at h0 hl
  have hci : clN ys s = -1 ∨ (0 ≤ clN ys s ∧ clN ys s < 0 + (6 : Nat)) := clT_in 6 0 (by omega)
  have ha : 0 ≤ (clR ys s).2.1.1 ∧ (clR ys s).2.1.1 ≤ ys.length := by
    unfold clR
    split
    · exact rdFor_at hta.1 hta.2.1
    · exact rdHab_at hta.1 hta.2.1
  have h01 : (clR ys s).1 = 0 ∨ (clR ys s).1 = 1 := by
    unfold clR
    split
    · exact rdFor_01 _ _
    · exact rdHab_01 _ _ _
  have hk01 := tkSig_01 ys 59 (clR ys s).2.1
  have tE : ∀ (V1 : Int → Int → Int) (bc bs : Nat), (clN ys s) ≠ -1 → noRm s.2.1 s.2.2.2.2.1 (clN ys s) ≠ 1 → hrIs V1 T H ys (clR ys s).2 → hrF V V1 T H → gX l E (gFm E (d + 8) iX5_readClause Q) 61 [some (ga T), some (ga H), some (gi (clN ys s)), some (gi ((clR ys s).1))] [] (K, R, V1) bc bs := by
    intro V1 bc bs hn1 hn2 hs1 hf1
    refine gX_iloadn dX5_readClause_61 rfl ?_
    refine gX_ifeq (tgt := 78) dX5_readClause_62 (by decide) (fun e1 => ?_) (fun e1 => ?_)
    · refine gX_iconst dX5_readClause_78 ⟨by decide, by decide⟩ ?_
      refine gX_iret dX5_readClause_79 (Or.inr ⟨rfl, Or.inl rfl⟩) ?_
      have e : rdCl ys s = _ := (if_neg hn1).trans ((if_neg hn2).trans (if_pos (by omega)))
      rw [e] at hQ
      exact hQ V1 hs1 hf1
    · refine gX_aloadn dX5_readClause_65 rfl ?_
      refine gX_bipush dX5_readClause_66 (by decide) ⟨by decide, by decide⟩ ?_
      refine gX_virt (J := iX8_takeSign) (av := [gi 59]) (a := T) (st := []) dX5_readClause_68 lkX5_55 kX8_takeSign vX8_takeSign (gFit_m (by decide)) hT.1 rfl rfl (Nat.le_of_ble_eq_true rfl) (Nat.zero_le _) (Nat.zero_le _) rfl ?_
      refine c_takeSign hT hs1.1 ha.1 ha.2 (fun V2 ht2 hf2 => ?_)
      show gX l E _ 71 [some (ga T), some (ga H), some (gi (clN ys s)), some (gi ((clR ys s).1))] [gi ((tkSig ys 59 (clR ys s).2.1).1)] (K, R, V2) _ _
      refine gX_ifeq (tgt := 78) dX5_readClause_71 (by decide) (fun e2 => ?_) (fun e2 => ?_)
      · refine gX_iconst dX5_readClause_78 ⟨by decide, by decide⟩ ?_
        refine gX_iret dX5_readClause_79 (Or.inr ⟨rfl, Or.inl rfl⟩) ?_
        have e : rdCl ys s = _ := (if_neg hn1).trans ((if_neg hn2).trans (if_neg (by omega)))
        have e2 : (tkSig ys 59 (clR ys s).2.1).1 = 0 := by omega
        rw [e] at hQ
        have hq3 := hQ V2 (hs1.told hd1 ht2 hf2) (hf1.trans hf2.hr)
        rw [show ((tkSig ys 59 (clR ys s).2.1).1, (tkSig ys 59 (clR ys s).2.1).2, (clR ys s).2.2).1 = (0 : Int) from e2] at hq3
        exact hq3
      · refine gX_iconst dX5_readClause_74 ⟨by decide, by decide⟩ ?_
        refine gX_goto (tgt := 79) dX5_readClause_75 (by decide) ?_
        refine gX_iret dX5_readClause_79 (Or.inr ⟨rfl, Or.inr rfl⟩) ?_
        have e : rdCl ys s = _ := (if_neg hn1).trans ((if_neg hn2).trans (if_neg (by omega)))
        have e2 : (tkSig ys 59 (clR ys s).2.1).1 = 1 := by omega
        rw [e] at hQ
        have hq3 := hQ V2 (hs1.told hd1 ht2 hf2) (hf1.trans hf2.hr)
        rw [show ((tkSig ys 59 (clR ys s).2.1).1, (tkSig ys 59 (clR ys s).2.1).2, (clR ys s).2.2).1 = (1 : Int) from e2] at hq3
        exact hq3
  refine gX_aloadn dX5_readClause_0 rfl ?_
  refine gX_virt (J := iX8_takeLetters) (av := []) (a := T) (st := []) dX5_readClause_1 lkX5_29 kX8_takeLetters vX8_takeLetters (gFit_m (by decide)) hT.1 rfl rfl (Nat.le_of_ble_eq_true rfl) (Nat.zero_le _) (Nat.zero_le _) rfl ?_
  refine c_takeLetters hT hs.1 h0 hl (fun V1 ht1 hf1 => ?_)
  show gX l E _ 4 [some (ga T), some (ga H), none, none] [] (K, R, V1) _ _
  have h1 : hrIs V1 T H ys ((tkLet ys s.1), s.2) := hs.told hd1 ht1 hf1
  refine gX_aloadn dX5_readClause_4 rfl ?_
  refine gX_stat (J := iX5_clauseTold) (av := [ga T]) (st := []) dX5_readClause_5 lkX5_32 kX5_clauseTold sX5_clauseTold (gFit_m (by decide)) rfl (Nat.le_of_ble_eq_true rfl) (Nat.zero_le _) (Nat.zero_le _) rfl ?_
  refine c_clauseTold hT ht1 (by omega) ?_
  show gX l E _ 8 [some (ga T), some (ga H), none, none] [gi (clN ys s)] (K, R, V1) _ _
  refine gX_istoren dX5_readClause_8 (show (2 : Nat) < 4 from by decide) (ls2 := [some (ga T), some (ga H), some (gi (clN ys s)), none]) rfl ?_
  refine gX_iloadn dX5_readClause_9 rfl ?_
  refine gX_iconst dX5_readClause_10 ⟨by decide, by decide⟩ ?_
  refine gX_icmpne (tgt := 24) dX5_readClause_11 (by decide) (fun m1 => ?_) (fun m1 => ?_)
  · refine gX_aloadn dX5_readClause_24 rfl ?_
    refine gX_iloadn dX5_readClause_25 rfl ?_
    refine gX_virt (J := iX4_hasNoRoomFor) (av := [gi (clN ys s)]) (a := H) (st := []) dX5_readClause_26 lkX5_44 kX4_hasNoRoomFor vX4_hasNoRoomFor (gFit_m (by decide)) hH.1 rfl rfl (Nat.le_of_ble_eq_true rfl) (Nat.zero_le _) (Nat.zero_le _) rfl ?_
    refine c_noRoom hH h1.2 ?_
    show gX l E _ 29 [some (ga T), some (ga H), some (gi (clN ys s)), none] [gi (noRm s.2.1 s.2.2.2.2.1 (clN ys s))] (K, R, V1) _ _
    have hnr := noRm_01 s.2.1 s.2.2.2.2.1 (clN ys s)
    refine gX_ifeq (tgt := 42) dX5_readClause_29 (by decide) (fun m2 => ?_) (fun m2 => ?_)
    · refine gX_iloadn dX5_readClause_42 rfl ?_
      refine gX_ifne (tgt := 54) dX5_readClause_43 (by decide) (fun m3 => ?_) (fun m3 => ?_)
      · refine gX_iloadn dX5_readClause_54 rfl ?_
        refine gX_aloadn dX5_readClause_55 rfl ?_
        refine gX_aloadn dX5_readClause_56 rfl ?_
        refine gX_stat (J := iX5_readHabit) (av := [gi (clN ys s), ga T, ga H]) (st := []) dX5_readClause_57 lkX5_51 kX5_readHabit sX5_readHabit (gFit_m (by decide)) rfl (Nat.le_of_ble_eq_true rfl) (Nat.zero_le _) (Nat.zero_le _) rfl ?_
        refine c_readHabit hT hH hd1 h1 hta.1 hta.2.1 ⟨by omega, by omega⟩ (fun V2 hs2 hf2 => ?_)
        show gX l E _ 60 [some (ga T), some (ga H), some (gi (clN ys s)), none] [gi ((rdHab ys (clN ys s) ((tkLet ys s.1), s.2)).1)] (K, R, V2) _ _
        refine gX_istoren dX5_readClause_60 (show (3 : Nat) < 4 from by decide) (ls2 := [some (ga T), some (ga H), some (gi (clN ys s)), some (gi ((rdHab ys (clN ys s) ((tkLet ys s.1), s.2)).1))]) rfl ?_
        have er : (clR ys s) = rdHab ys (clN ys s) ((tkLet ys s.1), s.2) := if_neg (by omega)
        rw [← er] at hs2
        rw [← er]
        exact tE V2 _ _ (by omega) (by omega) hs2 (hf1.hr.trans hf2)
      · refine gX_aloadn dX5_readClause_46 rfl ?_
        refine gX_aloadn dX5_readClause_47 rfl ?_
        refine gX_stat (J := iX5_readFor) (av := [ga T, ga H]) (st := []) dX5_readClause_48 lkX5_48 kX5_readFor sX5_readFor (gFit_m (by decide)) rfl (Nat.le_of_ble_eq_true rfl) (Nat.zero_le _) (Nat.zero_le _) rfl ?_
        refine c_readFor hT hH hd1 h1 hta.1 hta.2.1 (fun V2 hs2 hf2 => ?_)
        show gX l E _ 51 [some (ga T), some (ga H), some (gi (clN ys s)), none] [gi ((rdFor ys ((tkLet ys s.1), s.2)).1)] (K, R, V2) _ _
        refine gX_goto (tgt := 60) dX5_readClause_51 (by decide) ?_
        refine gX_istoren dX5_readClause_60 (show (3 : Nat) < 4 from by decide) (ls2 := [some (ga T), some (ga H), some (gi (clN ys s)), some (gi ((rdFor ys ((tkLet ys s.1), s.2)).1))]) rfl ?_
        have er : (clR ys s) = rdFor ys ((tkLet ys s.1), s.2) := if_pos (by omega)
        rw [← er] at hs2
        rw [← er]
        exact tE V2 _ _ (by omega) (by omega) hs2 (hf1.hr.trans hf2)
    · refine gX_aloadn dX5_readClause_32 rfl ?_
      refine gX_iconst dX5_readClause_33 ⟨by decide, by decide⟩ ?_
      refine gX_aloadn dX5_readClause_34 rfl ?_
      refine gX_gI 2 dX5_readClause_35 fdX5_36 rfl (Or.inl rfl) hT.1 ?_
      rw [show V1 T 2 = (tkLet ys s.1).2.1 from h1.1.2.1]
      refine gX_virt (J := iX8_fail) (av := [gi 3, gi ((tkLet ys s.1).2.1)]) (a := T) (st := []) dX5_readClause_38 lkX5_40 kX8_fail vX8_fail (gFit_m (by decide)) hT.1 rfl rfl (Nat.le_of_ble_eq_true rfl) (Nat.zero_le _) (Nat.zero_le _) rfl ?_
      refine c_fail hT h1.1 (fun V8 ht8 hf8 => ?_)
      show gX l E _ 41 [some (ga T), some (ga H), some (gi (clN ys s)), none] [gi 0] (K, R, V8) _ _
      refine gX_iret dX5_readClause_41 (Or.inr ⟨rfl, Or.inl rfl⟩) ?_
      have e : rdCl ys s = _ := (if_neg (by omega)).trans (if_pos (by omega))
      rw [e] at hQ
      exact hQ V8 (h1.told hd1 ht8 hf8) (hf1.hr.trans hf8.hr)
  · refine gX_aloadn dX5_readClause_14 rfl ?_
    refine gX_iconst dX5_readClause_15 ⟨by decide, by decide⟩ ?_
    refine gX_aloadn dX5_readClause_16 rfl ?_
    refine gX_gI 2 dX5_readClause_17 fdX5_36 rfl (Or.inl rfl) hT.1 ?_
    rw [show V1 T 2 = (tkLet ys s.1).2.1 from h1.1.2.1]
    refine gX_virt (J := iX8_fail) (av := [gi 1, gi ((tkLet ys s.1).2.1)]) (a := T) (st := []) dX5_readClause_20 lkX5_40 kX8_fail vX8_fail (gFit_m (by decide)) hT.1 rfl rfl (Nat.le_of_ble_eq_true rfl) (Nat.zero_le _) (Nat.zero_le _) rfl ?_
    refine c_fail hT h1.1 (fun V8 ht8 hf8 => ?_)
    show gX l E _ 23 [some (ga T), some (ga H), some (gi (clN ys s)), none] [gi 0] (K, R, V8) _ _
    refine gX_iret dX5_readClause_23 (Or.inr ⟨rfl, Or.inl rfl⟩) ?_
    have e : rdCl ys s = _ := if_pos (by omega)
    rw [e] at hQ
    exact hQ V8 (h1.told hd1 ht8 hf8) (hf1.hr.trans hf8.hr)
theorem rdCl_at {ys : List Int} {s : hR} (h0 : 0 ≤ s.1.1) (h1 : s.1.1 ≤ ys.length) : 0 ≤ (rdCl ys s).2.1.1 ∧ (rdCl ys s).2.1.1 ≤ ys.length := by
  have hta := tkLet_at h0 h1
  have ha : 0 ≤ (clR ys s).2.1.1 ∧ (clR ys s).2.1.1 ≤ ys.length := by
    unfold clR
    split
    · exact rdFor_at hta.1 hta.2.1
    · exact rdHab_at hta.1 hta.2.1
  have hp := pkB_in (ys := ys) (a := (clR ys s).2.1.1) ha.1 ha.2
  unfold rdCl
  split
  · exact ⟨hta.1, hta.2.1⟩
  · split
    · exact ⟨hta.1, hta.2.1⟩
    · split
      · exact ha
      · show 0 ≤ (tkSig ys 59 (clR ys s).2.1).2.1 ∧ (tkSig ys 59 (clR ys s).2.1).2.1 ≤ _
        unfold tkSig
        split
        · next he =>
          have hl := lat_lt (ys := ys) (x := pkB ys (clR ys s).2.1.1) (by rw [he]; decide)
          show 0 ≤ pkB ys (clR ys s).2.1.1 + 1 ∧ pkB ys (clR ys s).2.1.1 + 1 ≤ _; omega
        · show 0 ≤ pkB ys (clR ys s).2.1.1 ∧ pkB ys (clR ys s).2.1.1 ≤ _; omega
def pkH (ys : List Int) (s : hR) : hR := ((pkB ys s.1.1, s.1.2), s.2)
def rdH (ys : List Int) : Nat → Int → hR → hR
  | 0, _, s => s
  | n + 1, st, s => if st = 0 then s else if lat ys (pkB ys s.1.1) = -1 then pkH ys s else rdH ys n (rdCl ys (pkH ys s)).1 (rdCl ys (pkH ys s)).2
set_option maxRecDepth 4000 in
theorem c_readHand {t : tS} (hT : toK K R T) (hH : hdK K R H) (hd1 : H + 9 ≤ T) (ht : toIs V T ys t) (hQ : ∀ V', hrIs V' T H ys (rdH ys 160 1 ((0, 0, 0, -1), [], [], [], List.replicate 6 (-1), -1, -1)) → hrF V V' T H → Q none (K, R, V')) : gC l E (d + 9) iX5_readHand [ga T, ga H] (K, R, V) Q := by
  refine gC_of kX5_readHand (ls := [some (ga T), some (ga H), none, none]) rfl (Nat.le_of_ble_eq_true rfl) ?_
  have lp : ∀ (jj : Nat) (n : Int) (st : Int) (s : hR) (V1 : Int → Int → Int) (bc bs : Nat), (160 : Int) - n < (jj : Int) → 0 ≤ n → n ≤ 160 → 0 ≤ s.1.1 → s.1.1 ≤ ys.length → hrIs V1 T H ys s → hrF V V1 T H → (∀ V', hrIs V' T H ys (rdH ys (160 - n).toNat st s) → hrF V V' T H → Q none (K, R, V')) → gX l E (gFm E (d + 9) iX5_readHand Q) 12 [some (ga T), some (ga H), some (gi st), some (gi n)] [] (K, R, V1) bc bs := by
    intro jj
    induction jj with
    | zero =>
      intro n st s V1 bc bs hj q0 q1 q2 q3 hs1 hf1 hq2
      exfalso; omega
    | succ jj ih =>
      intro n st s V1 bc bs hj q0 q1 q2 q3 hs1 hf1 hq2
      have hp := pkB_in q2 q3
      have hat := rdCl_at (ys := ys) (s := pkH ys s) (by show 0 ≤ pkB ys s.1.1; omega) hp.2
      refine gX_iloadn dX5_readHand_12 rfl ?_
      refine gX_sipush dX5_readHand_13 (by decide) ⟨by decide, by decide⟩ ?_
      refine gX_icmpge (tgt := 43) dX5_readHand_16 (by decide) (fun w1 => ?_) (fun w1 => ?_)
      · refine gX_vret dX5_readHand_43 rfl ?_
        by_cases ck : n < 160
        · have ek : (160 - n).toNat = (160 - (n + 1)).toNat + 1 := by omega
          have e1 : rdH ys (160 - n).toNat st s = s := by
            rw [ek]
            show (if _ then _ else if _ then _ else _) = _
            rw [if_pos (by omega)]
          rw [e1] at hq2
          exact hq2 V1 hs1 hf1
        · have ei : (160 - n).toNat = 0 := by omega
          rw [ei] at hq2
          exact hq2 V1 hs1 hf1
      · refine gX_iloadn dX5_readHand_19 rfl ?_
        refine gX_ifeq (tgt := 43) dX5_readHand_20 (by decide) (fun w2 => ?_) (fun w2 => ?_)
        · refine gX_vret dX5_readHand_43 rfl ?_
          by_cases ck : n < 160
          · have ek : (160 - n).toNat = (160 - (n + 1)).toNat + 1 := by omega
            have e1 : rdH ys (160 - n).toNat st s = s := by
              rw [ek]
              show (if _ then _ else if _ then _ else _) = _
              rw [if_pos (by omega)]
            rw [e1] at hq2
            exact hq2 V1 hs1 hf1
          · have ei : (160 - n).toNat = 0 := by omega
            rw [ei] at hq2
            exact hq2 V1 hs1 hf1
        · refine gX_aloadn dX5_readHand_23 rfl ?_
          refine gX_virt (J := iX8_peek) (av := []) (a := T) (st := []) dX5_readHand_24 lkX5_19 kX8_peek vX8_peek (gFit_m (by decide)) hT.1 rfl rfl (Nat.le_of_ble_eq_true rfl) (Nat.zero_le _) (Nat.zero_le _) rfl ?_
          refine c_peek hT hs1.1 q2 q3 (fun V2 ht2 hf2 => ?_)
          show gX l E _ 27 [some (ga T), some (ga H), some (gi st), some (gi n)] [gi (lat ys (pkB ys s.1.1))] (K, R, V2) _ _
          have h2 : hrIs V2 T H ys (pkH ys s) := hs1.told hd1 ht2 hf2
          refine gX_iconst dX5_readHand_27 ⟨by decide, by decide⟩ ?_
          refine gX_icmpeq (tgt := 43) dX5_readHand_28 (by decide) (fun w3 => ?_) (fun w3 => ?_)
          · refine gX_vret dX5_readHand_43 rfl ?_
            have ek : (160 - n).toNat = (160 - (n + 1)).toNat + 1 := by omega
            have e1 : rdH ys (160 - n).toNat st s = pkH ys s := by
              rw [ek]
              show (if _ then _ else if _ then _ else _) = _
              rw [if_neg (by omega), if_pos (by omega)]
            rw [e1] at hq2
            exact hq2 V2 h2 (hf1.trans hf2.hr)
          · refine gX_aloadn dX5_readHand_31 rfl ?_
            refine gX_aloadn dX5_readHand_32 rfl ?_
            refine gX_stat (J := iX5_readClause) (av := [ga T, ga H]) (st := []) dX5_readHand_33 lkX5_23 kX5_readClause sX5_readClause (gFit_m (by decide)) rfl (Nat.le_of_ble_eq_true rfl) (Nat.zero_le _) (Nat.zero_le _) rfl ?_
            refine c_readClause hT hH hd1 h2 (by show 0 ≤ pkB ys s.1.1; omega) hp.2 (fun V3 hs3 hf3 => ?_)
            show gX l E _ 36 [some (ga T), some (ga H), some (gi st), some (gi n)] [gi ((rdCl ys (pkH ys s)).1)] (K, R, V3) _ _
            refine gX_istoren dX5_readHand_36 (show (2 : Nat) < 4 from by decide) (ls2 := [some (ga T), some (ga H), some (gi ((rdCl ys (pkH ys s)).1)), some (gi n)]) rfl ?_
            refine gX_iinc dX5_readHand_37 rfl (show (3 : Nat) < 4 from by decide) ⟨by omega, by omega⟩ (ls2 := [some (ga T), some (ga H), some (gi ((rdCl ys (pkH ys s)).1)), some (gi (n + 1))]) rfl ?_
            refine gX_goto (tgt := 12) dX5_readHand_40 (by decide) ?_
            have ek : (160 - n).toNat = (160 - (n + 1)).toNat + 1 := by omega
            have e1 : rdH ys (160 - n).toNat st s = rdH ys (160 - (n + 1)).toNat (rdCl ys (pkH ys s)).1 (rdCl ys (pkH ys s)).2 := by
              rw [ek]
              show (if _ then _ else if _ then _ else _) = _
              rw [if_neg (by omega), if_neg (by omega)]
            rw [e1] at hq2
            exact ih (n + 1) _ _ V3 _ _ (by omega) (by omega) (by omega) hat.1 hat.2 hs3 (hf1.trans (hf2.hr.trans hf3)) hq2
  refine gX_aloadn dX5_readHand_0 rfl ?_
  refine gX_virt (J := iX8_begin) (av := []) (a := T) (st := []) dX5_readHand_1 lkX5_9 kX8_begin vX8_begin (gFit_m (by decide)) hT.1 rfl rfl (Nat.le_of_ble_eq_true rfl) (Nat.zero_le _) (Nat.zero_le _) rfl ?_
  refine c_begin hT ht (fun V1 ht1 hf1 => ?_)
  show gX l E _ 4 [some (ga T), some (ga H), none, none] [] (K, R, V1) _ _
  refine gX_aloadn dX5_readHand_4 rfl ?_
  refine gX_virt (J := iX4_clear) (av := []) (a := H) (st := []) dX5_readHand_5 lkX5_14 kX4_clear vX4_clear (gFit_m (by decide)) hH.1 rfl rfl (Nat.le_of_ble_eq_true rfl) (Nat.zero_le _) (Nat.zero_le _) rfl ?_
  refine c_hdClear hH (fun V2 hh2 hf2 => ?_)
  show gX l E _ 8 [some (ga T), some (ga H), none, none] [] (K, R, V2) _ _
  refine gX_iconst dX5_readHand_8 ⟨by decide, by decide⟩ ?_
  refine gX_istoren dX5_readHand_9 (show (2 : Nat) < 4 from by decide) (ls2 := [some (ga T), some (ga H), some (gi 1), none]) rfl ?_
  refine gX_iconst dX5_readHand_10 ⟨by decide, by decide⟩ ?_
  refine gX_istoren dX5_readHand_11 (show (3 : Nat) < 4 from by decide) (ls2 := [some (ga T), some (ga H), some (gi 1), some (gi 0)]) rfl ?_
  exact lp 161 0 1 ((0, 0, 0, -1), [], [], [], List.replicate 6 (-1), -1, -1) V2 _ _ (by omega) (by omega) (by omega) (Int.le_refl 0) (by show (0 : Int) ≤ ys.length; omega) ⟨ht1.kept (hf2 _ (by omega)) (hf2 _ (by omega)) (hf2 _ (by omega)), hh2⟩ (fun a g1 g2 => by rw [hf2 a (by omega), hf1 a g1]) hQ
end HAND3
