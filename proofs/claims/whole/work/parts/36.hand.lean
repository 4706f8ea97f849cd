/-! Told.tokenIs; HandReader. Written by wip/whole/tools/mk_hand.py. -/
def tiF (ys : List Int) (tok : Int) (i : Nat) : Nat → Int → Bool
  | 0, _ => true
  | n + 1, k => if lat ys (tok + k) = sCh i k.toNat then tiF ys tok i n (k + 1) else false
def tkIs (ys : List Int) (t : tS) (i : Nat) : Bool := if t.1 - t.2.1 = sLn i then tiF ys t.2.1 i (sLn i) 0 else false
section HANDS
variable {l : Launch} {E : gE} {d : Nat} {K : List gK} {R V : Int → Int → Int} {T H : Int} {Q : gQ} {ys : List Int} {t : tS} {m : gM}
theorem c_sCharAtI {i : Nat} {k : Int} (hi : i < 9) (h0 : 0 ≤ k) (hk : k < sLn i) (hQ : Q (some (gi (sCh i k.toNat))) m) : gC l E (d + 4) iJ0_charAt_5068e [ga (1000000 + (i : Int)), gi k] m Q := by
  obtain ⟨n, rfl⟩ := Int.eq_ofNat_of_zero_le h0
  exact c_sCharAt hi (by omega) hQ
set_option maxRecDepth 4000 in
theorem c_tokenIs {i : Nat} (hi : i < 9) (hT : toK K R T) (ht : toIs V T ys t) (hb : -1000 ≤ t.1 ∧ t.1 ≤ 1000 ∧ -1000 ≤ t.2.1 ∧ t.2.1 ≤ 1000) (hQ : Q (some (gi (b2i (tkIs ys t i)))) (K, R, V)) : gC l E (d + 5) iX8_tokenIs [ga T, ga (1000000 + (i : Int))] (K, R, V) Q := by
  refine gC_of kX8_tokenIs (ls := [some (ga T), some (ga (1000000 + (i : Int))), none]) rfl (Nat.le_of_ble_eq_true rfl) ?_
  have hsb := sLn_bd i hi
  have lp : ∀ (jj : Nat) (k : Int) (bc bs : Nat), (sLn i : Int) - k < (jj : Int) → 0 ≤ k → k ≤ sLn i → (Q (some (gi (b2i (tiF ys t.2.1 i (sLn i - k.toNat) k)))) (K, R, V)) → gX l E (gFm E (d + 5) iX8_tokenIs Q) 20 [some (ga T), some (ga (1000000 + (i : Int))), some (gi k)] [] (K, R, V) bc bs := by
    intro jj
    induction jj with
    | zero =>
      intro k bc bs hj q0 q1 hq2
      exfalso; omega
    | succ jj ih =>
      intro k bc bs hj q0 q1 hq2
      refine gX_iloadn dX8_tokenIs_20 rfl ?_
      refine gX_aloadn dX8_tokenIs_21 rfl ?_
      refine gX_virS (J := iJ0_length_8abf5) (i := i) (av := []) (st := [gi k]) dX8_tokenIs_22 mlX8_54 kJ0_length_8abf5 vJ0_length_8abf5 (gFit_m (by decide)) hi rfl rfl (Nat.le_of_ble_eq_true rfl) (Nat.zero_le _) (Nat.zero_le _) rfl ?_
      refine c_sLength hi ?_
      show gX l E _ 25 [some (ga T), some (ga (1000000 + (i : Int))), some (gi k)] [gi (sLn i), gi k] (K, R, V) _ _
      refine gX_icmpge (tgt := 57) dX8_tokenIs_25 (by decide) (fun w1 => ?_) (fun w1 => ?_)
      · refine gX_iconst dX8_tokenIs_57 ⟨by decide, by decide⟩ ?_
        refine gX_iret dX8_tokenIs_58 (Or.inr ⟨rfl, Or.inr rfl⟩) ?_
        have ei : sLn i - k.toNat = 0 := by omega
        rw [ei] at hq2
        exact hq2
      · refine gX_aloadn dX8_tokenIs_28 rfl ?_
        refine gX_gR 0 dX8_tokenIs_29 fdX8_14 rfl rfl hT.1 hT.2.1 ?_
        refine gX_aloadn dX8_tokenIs_32 rfl ?_
        refine gX_gI 2 dX8_tokenIs_33 fdX8_24 rfl (Or.inl rfl) hT.1 ?_
        rw [ht.2.1]
        refine gX_iloadn dX8_tokenIs_36 rfl ?_
        refine gX_iadd dX8_tokenIs_37 ⟨by omega, by omega⟩ ?_
        refine gX_virt (J := iX6_at) (av := [gi (t.2.1 + k)]) (a := (T + 1)) (st := []) dX8_tokenIs_38 lkX8_37 kX6_at vX6_at (gFit_m (by decide)) hT.2.2.1 rfl rfl (Nat.le_of_ble_eq_true rfl) (Nat.zero_le _) (Nat.zero_le _) rfl ?_
        refine q_Row_at hT.2.2 ht.2.2.2.2 ?_
        show gX l E _ 41 [some (ga T), some (ga (1000000 + (i : Int))), some (gi k)] [gi (lat ys (t.2.1 + k))] (K, R, V) _ _
        refine gX_aloadn dX8_tokenIs_41 rfl ?_
        refine gX_iloadn dX8_tokenIs_42 rfl ?_
        refine gX_virS (J := iJ0_charAt_5068e) (i := i) (av := [gi k]) (st := [gi (lat ys (t.2.1 + k))]) dX8_tokenIs_43 mlX8_57 kJ0_charAt_5068e vJ0_charAt_5068e (gFit_m (by decide)) hi rfl rfl (Nat.le_of_ble_eq_true rfl) (Nat.zero_le _) (Nat.zero_le _) rfl ?_
        refine c_sCharAtI hi q0 (by omega) ?_
        show gX l E _ 46 [some (ga T), some (ga (1000000 + (i : Int))), some (gi k)] [gi (sCh i k.toNat), gi (lat ys (t.2.1 + k))] (K, R, V) _ _
        refine gX_icmpeq (tgt := 51) dX8_tokenIs_46 (by decide) (fun w2 => ?_) (fun w2 => ?_)
        · refine gX_iinc dX8_tokenIs_51 rfl (show (2 : Nat) < 3 from by decide) ⟨by omega, by omega⟩ (ls2 := [some (ga T), some (ga (1000000 + (i : Int))), some (gi (k + 1))]) rfl ?_
          refine gX_goto (tgt := 20) dX8_tokenIs_54 (by decide) ?_
          have ek : sLn i - k.toNat = (sLn i - (k + 1).toNat) + 1 := by omega
          have e1 : tiF ys t.2.1 i (sLn i - k.toNat) k = tiF ys t.2.1 i (sLn i - (k + 1).toNat) (k + 1) := by
            rw [ek]
            exact if_pos (by omega)
          rw [e1] at hq2
          exact ih (k + 1) _ _ (by omega) (by omega) (by omega) hq2
        · refine gX_iconst dX8_tokenIs_49 ⟨by decide, by decide⟩ ?_
          refine gX_iret dX8_tokenIs_50 (Or.inr ⟨rfl, Or.inl rfl⟩) ?_
          have ek : sLn i - k.toNat = (sLn i - (k + 1).toNat) + 1 := by omega
          have e1 : tiF ys t.2.1 i (sLn i - k.toNat) k = false := by
            rw [ek]
            exact if_neg (by omega)
          rw [e1] at hq2
          exact hq2
  refine gX_aloadn dX8_tokenIs_0 rfl ?_
  refine gX_gI 1 dX8_tokenIs_1 fdX8_20 rfl (Or.inl rfl) hT.1 ?_
  rw [ht.1]
  refine gX_aloadn dX8_tokenIs_4 rfl ?_
  refine gX_gI 2 dX8_tokenIs_5 fdX8_24 rfl (Or.inl rfl) hT.1 ?_
  rw [ht.2.1]
  refine gX_isub dX8_tokenIs_8 ⟨by omega, by omega⟩ ?_
  refine gX_aloadn dX8_tokenIs_9 rfl ?_
  refine gX_virS (J := iJ0_length_8abf5) (i := i) (av := []) (st := [gi (t.1 - t.2.1)]) dX8_tokenIs_10 mlX8_54 kJ0_length_8abf5 vJ0_length_8abf5 (gFit_m (by decide)) hi rfl rfl (Nat.le_of_ble_eq_true rfl) (Nat.zero_le _) (Nat.zero_le _) rfl ?_
  refine c_sLength hi ?_
  show gX l E _ 13 [some (ga T), some (ga (1000000 + (i : Int))), none] [gi (sLn i), gi (t.1 - t.2.1)] (K, R, V) _ _
  refine gX_icmpeq (tgt := 18) dX8_tokenIs_13 (by decide) (fun m1 => ?_) (fun m1 => ?_)
  · refine gX_iconst dX8_tokenIs_18 ⟨by decide, by decide⟩ ?_
    refine gX_istoren dX8_tokenIs_19 (show (2 : Nat) < 3 from by decide) (ls2 := [some (ga T), some (ga (1000000 + (i : Int))), some (gi 0)]) rfl ?_
    have e : tkIs ys t i = tiF ys t.2.1 i (sLn i) 0 := if_pos (by omega)
    rw [e] at hQ
    exact lp (sLn i + 1) 0 _ _ (by omega) (by omega) (by omega) hQ
  · refine gX_iconst dX8_tokenIs_16 ⟨by decide, by decide⟩ ?_
    refine gX_iret dX8_tokenIs_17 (Or.inr ⟨rfl, Or.inl rfl⟩) ?_
    have e : tkIs ys t i = false := if_neg (by omega)
    rw [e] at hQ
    exact hQ
theorem c_tokenIsI {c : Int} (h0 : 0 ≤ c) (h9 : c < 9) (hT : toK K R T) (ht : toIs V T ys t) (hb : -1000 ≤ t.1 ∧ t.1 ≤ 1000 ∧ -1000 ≤ t.2.1 ∧ t.2.1 ≤ 1000) (hQ : Q (some (gi (b2i (tkIs ys t c.toNat)))) (K, R, V)) : gC l E (d + 5) iX8_tokenIs [ga T, ga (1000000 + c)] (K, R, V) Q := by
  obtain ⟨n, rfl⟩ := Int.eq_ofNat_of_zero_le h0
  exact c_tokenIs (by omega) hT ht hb hQ
def clT (ys : List Int) (t : tS) (o : Int) : Nat → Int → Int
  | 0, _ => -1
  | n + 1, c => if tkIs ys t (o + c).toNat = true then c else clT ys t o n (c + 1)
set_option maxRecDepth 4000 in
theorem c_clauseName {c : Int} (h0 : 0 ≤ c) (h5 : c ≤ 5) (hQ : Q (some (ga (1000000 + c))) (K, R, V)) : gC l E (d + 1) iX5_clauseName [gi c] (K, R, V) Q := by
  refine gC_of kX5_clauseName (ls := [some (gi c)]) rfl (Nat.le_of_ble_eq_true rfl) ?_
  refine gX_iloadn dX5_clauseName_0 rfl ?_
  refine gX_tab (dt := 51) [36, 39, 42, 45, 48] dX5_clauseName_1 (by decide) (by decide) (by decide) (fun w1 => ?_) (fun i9 t9 ht9 w1 => ?_)
  · refine gX_ldcs (i := 5) (a := 1000005) dX5_clauseName_51 rfl rfl rfl ?_
    refine gX_aret dX5_clauseName_53 rfl rfl ?_
    have e : (1000000 + c : Int) = 1000005 := by omega
    rw [e] at hQ
    exact hQ
  · match i9, ht9 with
    | 0, ht9 =>
      cases ht9
      refine gX_ldcs (i := 0) (a := 1000000) dX5_clauseName_36 rfl rfl rfl ?_
      refine gX_aret dX5_clauseName_38 rfl rfl ?_
      have e : (1000000 + c : Int) = 1000000 := by omega
      rw [e] at hQ
      exact hQ
    | 1, ht9 =>
      cases ht9
      refine gX_ldcs (i := 1) (a := 1000001) dX5_clauseName_39 rfl rfl rfl ?_
      refine gX_aret dX5_clauseName_41 rfl rfl ?_
      have e : (1000000 + c : Int) = 1000001 := by omega
      rw [e] at hQ
      exact hQ
    | 2, ht9 =>
      cases ht9
      refine gX_ldcs (i := 2) (a := 1000002) dX5_clauseName_42 rfl rfl rfl ?_
      refine gX_aret dX5_clauseName_44 rfl rfl ?_
      have e : (1000000 + c : Int) = 1000002 := by omega
      rw [e] at hQ
      exact hQ
    | 3, ht9 =>
      cases ht9
      refine gX_ldcs (i := 3) (a := 1000003) dX5_clauseName_45 rfl rfl rfl ?_
      refine gX_aret dX5_clauseName_47 rfl rfl ?_
      have e : (1000000 + c : Int) = 1000003 := by omega
      rw [e] at hQ
      exact hQ
    | 4, ht9 =>
      cases ht9
      refine gX_ldcs (i := 4) (a := 1000004) dX5_clauseName_48 rfl rfl rfl ?_
      refine gX_aret dX5_clauseName_50 rfl rfl ?_
      have e : (1000000 + c : Int) = 1000004 := by omega
      rw [e] at hQ
      exact hQ
    | k9 + 5, ht9 => exact absurd (List.getElem?_eq_some_iff.mp ht9).1 (by simp)
set_option maxRecDepth 4000 in
theorem c_wayName {c : Int} (h0 : 0 ≤ c) (h5 : c ≤ 2) (hQ : Q (some (ga (1000006 + c))) (K, R, V)) : gC l E (d + 1) iX5_wayName [gi c] (K, R, V) Q := by
  refine gC_of kX5_wayName (ls := [some (gi c)]) rfl (Nat.le_of_ble_eq_true rfl) ?_
  refine gX_iloadn dX5_wayName_0 rfl ?_
  by_cases hc : c = 0
  · subst hc
    refine gX_lookup (tgt := 28) dX5_wayName_1 (by decide) rfl (by decide) ?_
    refine gX_ldcs (i := 6) (a := 1000006) dX5_wayName_28 rfl rfl rfl ?_
    refine gX_aret dX5_wayName_30 rfl rfl ?_
    exact hQ
  by_cases hc : c = 1
  · subst hc
    refine gX_lookup (tgt := 31) dX5_wayName_1 (by decide) rfl (by decide) ?_
    refine gX_ldcs (i := 7) (a := 1000007) dX5_wayName_31 rfl rfl rfl ?_
    refine gX_aret dX5_wayName_33 rfl rfl ?_
    exact hQ
  have hc : c = 2 := by omega
  subst hc
  refine gX_lookup (tgt := 34) dX5_wayName_1 (by decide) rfl (by decide) ?_
  refine gX_ldcs (i := 8) (a := 1000008) dX5_wayName_34 rfl rfl rfl ?_
  refine gX_aret dX5_wayName_36 rfl rfl ?_
  exact hQ
set_option maxRecDepth 4000 in
theorem c_clauseTold (hT : toK K R T) (ht : toIs V T ys t) (hb : -1000 ≤ t.1 ∧ t.1 ≤ 1000 ∧ -1000 ≤ t.2.1 ∧ t.2.1 ≤ 1000) (hQ : Q (some (gi (clT ys t 0 6 0))) (K, R, V)) : gC l E (d + 6) iX5_clauseTold [ga T] (K, R, V) Q := by
  refine gC_of kX5_clauseTold (ls := [some (ga T), none]) rfl (Nat.le_of_ble_eq_true rfl) ?_
  have lp : ∀ (jj : Nat) (c : Int) (bc bs : Nat), (6 : Int) - c < (jj : Int) → 0 ≤ c → c ≤ 6 → (Q (some (gi (clT ys t 0 (6 - c).toNat c))) (K, R, V)) → gX l E (gFm E (d + 6) iX5_clauseTold Q) 2 [some (ga T), some (gi c)] [] (K, R, V) bc bs := by
    intro jj
    induction jj with
    | zero =>
      intro c bc bs hj q0 q1 hq2
      exfalso; omega
    | succ jj ih =>
      intro c bc bs hj q0 q1 hq2
      refine gX_iloadn dX5_clauseTold_2 rfl ?_
      refine gX_iconst dX5_clauseTold_3 ⟨by decide, by decide⟩ ?_
      refine gX_icmpgt (tgt := 26) dX5_clauseTold_4 (by decide) (fun w1 => ?_) (fun w1 => ?_)
      · refine gX_iconst dX5_clauseTold_26 ⟨by decide, by decide⟩ ?_
        refine gX_iret dX5_clauseTold_27 (Or.inl rfl) ?_
        have ei : (6 - c).toNat = 0 := by omega
        rw [ei] at hq2
        exact hq2
      · refine gX_aloadn dX5_clauseTold_7 rfl ?_
        refine gX_iloadn dX5_clauseTold_8 rfl ?_
        refine gX_stat (J := iX5_clauseName) (av := [gi c]) (st := [ga T]) dX5_clauseTold_9 lkX5_58 kX5_clauseName sX5_clauseName (gFit_m (by decide)) rfl (Nat.le_of_ble_eq_true rfl) (Nat.zero_le _) (Nat.zero_le _) rfl ?_
        refine c_clauseName q0 (by omega) ?_
        show gX l E _ 12 [some (ga T), some (gi c)] [ga (1000000 + c), ga T] (K, R, V) _ _
        rw [show (1000000 + c : Int) = 1000000 + (0 + c) by omega]
        refine gX_virt (J := iX8_tokenIs) (av := [ga (1000000 + (0 + c))]) (a := T) (st := []) dX5_clauseTold_12 lkX5_62 kX8_tokenIs vX8_tokenIs (gFit_m (by decide)) hT.1 rfl rfl (Nat.le_of_ble_eq_true rfl) (Nat.zero_le _) (Nat.zero_le _) rfl ?_
        refine c_tokenIsI (c := 0 + c) (by omega) (by omega) hT ht hb ?_
        show gX l E _ 15 [some (ga T), some (gi c)] [gi (b2i (tkIs ys t (0 + c).toNat))] (K, R, V) _ _
        refine gX_ifeq (tgt := 20) dX5_clauseTold_15 (by decide) (fun w2 => ?_) (fun w2 => ?_)
        · refine gX_iinc dX5_clauseTold_20 rfl (show (1 : Nat) < 2 from by decide) ⟨by omega, by omega⟩ (ls2 := [some (ga T), some (gi (c + 1))]) rfl ?_
          refine gX_goto (tgt := 2) dX5_clauseTold_23 (by decide) ?_
          have ek : (6 - c).toNat = (6 - (c + 1)).toNat + 1 := by omega
          have e1 : clT ys t 0 (6 - c).toNat c = clT ys t 0 (6 - (c + 1)).toNat (c + 1) := by
            rw [ek]
            exact if_neg (by rw [b2i_0 (b := tkIs ys t (0 + c).toNat) (by assumption)]; decide)
          rw [e1] at hq2
          exact ih (c + 1) _ _ (by omega) (by omega) (by omega) hq2
        · refine gX_iloadn dX5_clauseTold_18 rfl ?_
          refine gX_iret dX5_clauseTold_19 (Or.inl rfl) ?_
          have ek : (6 - c).toNat = (6 - (c + 1)).toNat + 1 := by omega
          have e1 : clT ys t 0 (6 - c).toNat c = c := by
            rw [ek]
            exact if_pos (b2i_1 (by assumption))
          rw [e1] at hq2
          exact hq2
  refine gX_iconst dX5_clauseTold_0 ⟨by decide, by decide⟩ ?_
  refine gX_istoren dX5_clauseTold_1 (show (1 : Nat) < 2 from by decide) (ls2 := [some (ga T), some (gi 0)]) rfl ?_
  exact lp 7 0 _ _ (by omega) (by omega) (by omega) hQ
set_option maxRecDepth 4000 in
theorem c_wayTold (hT : toK K R T) (ht : toIs V T ys t) (hb : -1000 ≤ t.1 ∧ t.1 ≤ 1000 ∧ -1000 ≤ t.2.1 ∧ t.2.1 ≤ 1000) (hQ : Q (some (gi (clT ys t 6 3 0))) (K, R, V)) : gC l E (d + 6) iX5_wayTold [ga T] (K, R, V) Q := by
  refine gC_of kX5_wayTold (ls := [some (ga T), none]) rfl (Nat.le_of_ble_eq_true rfl) ?_
  have lp : ∀ (jj : Nat) (c : Int) (bc bs : Nat), (3 : Int) - c < (jj : Int) → 0 ≤ c → c ≤ 3 → (Q (some (gi (clT ys t 6 (3 - c).toNat c))) (K, R, V)) → gX l E (gFm E (d + 6) iX5_wayTold Q) 2 [some (ga T), some (gi c)] [] (K, R, V) bc bs := by
    intro jj
    induction jj with
    | zero =>
      intro c bc bs hj q0 q1 hq2
      exfalso; omega
    | succ jj ih =>
      intro c bc bs hj q0 q1 hq2
      refine gX_iloadn dX5_wayTold_2 rfl ?_
      refine gX_iconst dX5_wayTold_3 ⟨by decide, by decide⟩ ?_
      refine gX_icmpge (tgt := 26) dX5_wayTold_4 (by decide) (fun w1 => ?_) (fun w1 => ?_)
      · refine gX_iconst dX5_wayTold_26 ⟨by decide, by decide⟩ ?_
        refine gX_iret dX5_wayTold_27 (Or.inl rfl) ?_
        have ei : (3 - c).toNat = 0 := by omega
        rw [ei] at hq2
        exact hq2
      · refine gX_aloadn dX5_wayTold_7 rfl ?_
        refine gX_iloadn dX5_wayTold_8 rfl ?_
        refine gX_stat (J := iX5_wayName) (av := [gi c]) (st := [ga T]) dX5_wayTold_9 lkX5_117 kX5_wayName sX5_wayName (gFit_m (by decide)) rfl (Nat.le_of_ble_eq_true rfl) (Nat.zero_le _) (Nat.zero_le _) rfl ?_
        refine c_wayName q0 (by omega) ?_
        show gX l E _ 12 [some (ga T), some (gi c)] [ga (1000006 + c), ga T] (K, R, V) _ _
        rw [show (1000006 + c : Int) = 1000000 + (6 + c) by omega]
        refine gX_virt (J := iX8_tokenIs) (av := [ga (1000000 + (6 + c))]) (a := T) (st := []) dX5_wayTold_12 lkX5_62 kX8_tokenIs vX8_tokenIs (gFit_m (by decide)) hT.1 rfl rfl (Nat.le_of_ble_eq_true rfl) (Nat.zero_le _) (Nat.zero_le _) rfl ?_
        refine c_tokenIsI (c := 6 + c) (by omega) (by omega) hT ht hb ?_
        show gX l E _ 15 [some (ga T), some (gi c)] [gi (b2i (tkIs ys t (6 + c).toNat))] (K, R, V) _ _
        refine gX_ifeq (tgt := 20) dX5_wayTold_15 (by decide) (fun w2 => ?_) (fun w2 => ?_)
        · refine gX_iinc dX5_wayTold_20 rfl (show (1 : Nat) < 2 from by decide) ⟨by omega, by omega⟩ (ls2 := [some (ga T), some (gi (c + 1))]) rfl ?_
          refine gX_goto (tgt := 2) dX5_wayTold_23 (by decide) ?_
          have ek : (3 - c).toNat = (3 - (c + 1)).toNat + 1 := by omega
          have e1 : clT ys t 6 (3 - c).toNat c = clT ys t 6 (3 - (c + 1)).toNat (c + 1) := by
            rw [ek]
            exact if_neg (by rw [b2i_0 (b := tkIs ys t (6 + c).toNat) (by assumption)]; decide)
          rw [e1] at hq2
          exact ih (c + 1) _ _ (by omega) (by omega) (by omega) hq2
        · refine gX_iloadn dX5_wayTold_18 rfl ?_
          refine gX_iret dX5_wayTold_19 (Or.inl rfl) ?_
          have ek : (3 - c).toNat = (3 - (c + 1)).toNat + 1 := by omega
          have e1 : clT ys t 6 (3 - c).toNat c = c := by
            rw [ek]
            exact if_pos (b2i_1 (by assumption))
          rw [e1] at hq2
          exact hq2
  refine gX_iconst dX5_wayTold_0 ⟨by decide, by decide⟩ ?_
  refine gX_istoren dX5_wayTold_1 (show (1 : Nat) < 2 from by decide) (ls2 := [some (ga T), some (gi 0)]) rfl ?_
  exact lp 4 0 _ _ (by omega) (by omega) (by omega) hQ
end HANDS
