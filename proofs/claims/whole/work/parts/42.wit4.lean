/-! Witnesses: the groups. Written by wip/whole/tools/mk_wit4.py. -/
def fgI (rd : List Int) (ba se i : Int) : Nat → Int → List Int → List Int
  | 0, _, g => g
  | j + 1, r, g => if r < 64 then fgI rd ba se i j (nrd rd se i r) (if r ≠ hrd rd ba i ∧ 2 ≤ popc (mbs rd se i r) ∧ ¬ mbs rd se i r ∈ g then ladd 160 g (mbs rd se i r) else g) else g
def fgF (rd : List Int) (ba se : Int) : Nat → Int → List Int → List Int
  | 0, _, g => g
  | j + 1, i, g => fgF rd ba se j (i + 1) (fgI rd ba se i 10 (nrd rd se i (-2)) g)
theorem gor_10 : ∀ (m : Fin 1024) (b : Fin 10), 0 ≤ gor ((m : Nat) : Int) (gshl 1 ((b : Nat) : Int)) ∧ gor ((m : Nat) : Int) (gshl 1 ((b : Nat) : Int)) < 1024 := by decide +kernel
theorem gor_lt {m b : Int} (hm : 0 ≤ m ∧ m < 1024) (hb : 0 ≤ b ∧ b < 10) : 0 ≤ gor m (gshl 1 b) ∧ gor m (gshl 1 b) < 1024 := by
  have h := gor_10 ⟨m.toNat, by omega⟩ ⟨b.toNat, by omega⟩
  have e1 : ((m.toNat : Nat) : Int) = m := Int.toNat_of_nonneg hm.1
  have e2 : ((b.toNat : Nat) : Int) = b := Int.toNat_of_nonneg hb.1
  simp only [e1, e2] at h
  exact h
theorem mbF_bd {rd : List Int} {se i r : Int} : ∀ (k : Nat) (b m : Int), 0 ≤ b → b + k ≤ 10 → 0 ≤ m ∧ m < 1024 → 0 ≤ mbF rd se i r k b m ∧ mbF rd se i r k b m < 1024
  | 0, _, _, _, _, h => h
  | k + 1, b, m, h0, h1, h => by
    show 0 ≤ mbF rd se i r k (b + 1) _ ∧ mbF rd se i r k (b + 1) _ < 1024
    split
    · exact mbF_bd k (b + 1) _ (by omega) (by omega) (gor_lt h ⟨by omega, by omega⟩)
    · exact mbF_bd k (b + 1) m (by omega) (by omega) h
theorem mbs_bd (rd : List Int) (se i r : Int) : 0 ≤ mbs rd se i r ∧ mbs rd se i r < 1024 := mbF_bd 10 0 0 (by omega) (by omega) (by omega)
section WIT4
variable {l : Launch} {E : gE} {d : Nat} {K : List gK} {R V : Int → Int → Int} {W : Int} {Q : gQ} {rd : List Int} {ba se pl : Int}
set_option maxRecDepth 4000 in
theorem c_findGroups (hW : wtK K R W) (hw : wtIs V W rd ba se pl) (hba : 0 ≤ ba ∧ ba < 10) (hpl : 0 ≤ pl ∧ pl ≤ 40) (hQ : ∀ V', wtIs V' W rd ba se pl → rIs V' (W + 3) 160 (fgF rd ba se pl.toNat 0 []) → rFr V V' (W + 3) → Q (some (ga (W + 3))) (K, R, V')) : gC l E (d + 5) iX10_findGroups [ga W] (K, R, V) Q := by
  refine gC_of kX10_findGroups (ls := [some (ga W), none, none, none, none, none]) rfl (Nat.le_of_ble_eq_true rfl) ?_
  have lp : ∀ (jj : Nat) (i : Int) (j2 : Option gV) (j3 : Option gV) (j4 : Option gV) (j5 : Option gV) (g : List Int) (V1 : Int → Int → Int) (bc bs : Nat), pl - i < (jj : Int) → 0 ≤ i → i ≤ pl → wtIs V1 W rd ba se pl → rIs V1 (W + 3) 160 g → rFr V V1 (W + 3) → (∀ V', wtIs V' W rd ba se pl → rIs V' (W + 3) 160 (fgF rd ba se (pl - i).toNat i g) → rFr V V' (W + 3) → Q (some (ga (W + 3))) (K, R, V')) → gX l E (gFm E (d + 5) iX10_findGroups Q) 9 [some (ga W), some (gi i), j2, j3, j4, j5] [] (K, R, V1) bc bs := by
    intro jj
    induction jj with
    | zero =>
      intro i j2 j3 j4 j5 g V1 bc bs hj q0 q1 hw1 hx1 hf1 hq2
      exfalso; omega
    | succ jj ih =>
      intro i j2 j3 j4 j5 g V1 bc bs hj q0 q1 hw1 hx1 hf1 hq2
      refine gX_iloadn dX10_findGroups_9 rfl ?_
      refine gX_aloadn dX10_findGroups_10 rfl ?_
      refine gX_gI 5 dX10_findGroups_11 fdX10_33 rfl (Or.inl rfl) hW.1 ?_
      rw [hw1.2.2.2]
      refine gX_icmpge (tgt := 121) dX10_findGroups_14 (by decide) (fun m1 => ?_) (fun m1 => ?_)
      · refine gX_aloadn dX10_findGroups_121 rfl ?_
        refine gX_gR 1 dX10_findGroups_122 fdX10_20 rfl rfl hW.1 hW.2.2.1 ?_
        refine gX_aret dX10_findGroups_125 rfl rfl ?_
        have ei : (pl - i).toNat = 0 := by omega
        rw [ei] at hq2
        exact hq2 V1 hw1 hx1 hf1
      · refine gX_aloadn dX10_findGroups_17 rfl ?_
        refine gX_iloadn dX10_findGroups_18 rfl ?_
        refine gX_bipush dX10_findGroups_19 (by decide) ⟨by decide, by decide⟩ ?_
        refine gX_virt (J := iX10_nextReading) (av := [gi i, gi (-2)]) (a := W) (st := []) dX10_findGroups_21 lkX10_58 kX10_nextReading vX10_nextReading (gFit_m (by decide)) hW.1 rfl rfl (Nat.le_of_ble_eq_true rfl) (Nat.zero_le _) (Nat.zero_le _) rfl ?_
        refine c_nextReading hW hw1 ⟨by omega, by omega⟩ ?_
        show gX l E _ 24 [some (ga W), some (gi i), j2, j3, j4, j5] [gi (nrd rd se i (-2))] (K, R, V1) _ _
        refine gX_istoren dX10_findGroups_24 (show (2 : Nat) < 6 from by decide) (ls2 := [some (ga W), some (gi i), some (gi (nrd rd se i (-2))), j3, j4, j5]) rfl ?_
        refine gX_iconst dX10_findGroups_25 ⟨by decide, by decide⟩ ?_
        refine gX_istoren dX10_findGroups_26 (show (3 : Nat) < 6 from by decide) (ls2 := [some (ga W), some (gi i), some (gi (nrd rd se i (-2))), some (gi 0), j4, j5]) rfl ?_
        have lq : ∀ (jj : Nat) (t : Int) (r : Int) (j4 : Option gV) (j5 : Option gV) (g : List Int) (V1 : Int → Int → Int) (bc bs : Nat), 10 - t < (jj : Int) → 0 ≤ t → t ≤ 10 → wtIs V1 W rd ba se pl → rIs V1 (W + 3) 160 g → rFr V V1 (W + 3) → (∀ V' r2 t2 j4 j5 bc bs, wtIs V' W rd ba se pl → rIs V' (W + 3) 160 (fgI rd ba se i (10 - t).toNat r g) → rFr V V' (W + 3) → gX l E (gFm E (d + 5) iX10_findGroups Q) 115 [some (ga W), some (gi i), r2, t2, j4, j5] [] (K, R, V') bc bs) → gX l E (gFm E (d + 5) iX10_findGroups Q) 27 [some (ga W), some (gi i), some (gi r), some (gi t), j4, j5] [] (K, R, V1) bc bs := by
          intro jj
          induction jj with
          | zero =>
            intro t r j4 j5 g V1 bc bs hj k0 k1 hw1 hx1 hf1 hk2
            exfalso; omega
          | succ jj ih =>
            intro t r j4 j5 g V1 bc bs hj k0 k1 hw1 hx1 hf1 hk2
            refine gX_iloadn dX10_findGroups_27 rfl ?_
            refine gX_bipush dX10_findGroups_28 (by decide) ⟨by decide, by decide⟩ ?_
            refine gX_icmpge (tgt := 115) dX10_findGroups_30 (by decide) (fun w1 => ?_) (fun w1 => ?_)
            · by_cases ct : t < 10
              · have ek : (10 - t).toNat = (10 - (t + 1)).toNat + 1 := by omega
                have e1 : fgI rd ba se i (10 - t).toNat r g = g := by
                  rw [ek]
                  show (if _ then fgI rd ba se i _ _ (if _ then _ else _) else _) = _
                  rw [if_neg (by omega)]
                rw [e1] at hk2
                exact hk2 V1 _ _ _ _ _ _ hw1 hx1 hf1
              · have ek : (10 - t).toNat = 0 := by omega
                rw [ek] at hk2
                exact hk2 V1 _ _ _ _ _ _ hw1 hx1 hf1
            · refine gX_iloadn dX10_findGroups_33 rfl ?_
              refine gX_bipush dX10_findGroups_34 (by decide) ⟨by decide, by decide⟩ ?_
              refine gX_icmpge (tgt := 115) dX10_findGroups_36 (by decide) (fun w2 => ?_) (fun w2 => ?_)
              · by_cases ct : t < 10
                · have ek : (10 - t).toNat = (10 - (t + 1)).toNat + 1 := by omega
                  have e1 : fgI rd ba se i (10 - t).toNat r g = g := by
                    rw [ek]
                    show (if _ then fgI rd ba se i _ _ (if _ then _ else _) else _) = _
                    rw [if_neg (by omega)]
                  rw [e1] at hk2
                  exact hk2 V1 _ _ _ _ _ _ hw1 hx1 hf1
                · have ek : (10 - t).toNat = 0 := by omega
                  rw [ek] at hk2
                  exact hk2 V1 _ _ _ _ _ _ hw1 hx1 hf1
              · refine gX_aloadn dX10_findGroups_39 rfl ?_
                refine gX_iloadn dX10_findGroups_40 rfl ?_
                refine gX_iloadn dX10_findGroups_41 rfl ?_
                refine gX_virt (J := iX10_membersOf) (av := [gi i, gi r]) (a := W) (st := []) dX10_findGroups_42 lkX10_75 kX10_membersOf vX10_membersOf (gFit_m (by decide)) hW.1 rfl rfl (Nat.le_of_ble_eq_true rfl) (Nat.zero_le _) (Nat.zero_le _) rfl ?_
                refine c_membersOf hW hw1 ⟨by omega, by omega⟩ ?_
                show gX l E _ 45 [some (ga W), some (gi i), some (gi r), some (gi t), j4, j5] [gi (mbs rd se i r)] (K, R, V1) _ _
                refine gX_istore dX10_findGroups_45 (show (4 : Nat) < 6 from by decide) (ls2 := [some (ga W), some (gi i), some (gi r), some (gi t), some (gi (mbs rd se i r)), j5]) rfl ?_
                refine gX_iloadn dX10_findGroups_47 rfl ?_
                refine gX_aloadn dX10_findGroups_48 rfl ?_
                refine gX_aloadn dX10_findGroups_49 rfl ?_
                refine gX_gI 3 dX10_findGroups_50 fdX10_26 rfl (Or.inl rfl) hW.1 ?_
                rw [hw1.2.1]
                refine gX_iloadn dX10_findGroups_53 rfl ?_
                refine gX_virt (J := iX10_heard) (av := [gi ba, gi i]) (a := W) (st := [gi r]) dX10_findGroups_54 lkX10_51 kX10_heard vX10_heard (gFit_m (by decide)) hW.1 rfl rfl (Nat.le_of_ble_eq_true rfl) (Nat.zero_le _) (Nat.zero_le _) rfl ?_
                refine c_heard hW hw1 ⟨by omega, by omega, by omega, by omega⟩ ?_
                show gX l E _ 57 [some (ga W), some (gi i), some (gi r), some (gi t), some (gi (mbs rd se i r)), j5] [gi (hrd rd ba i), gi r] (K, R, V1) _ _
                refine gX_icmpeq (tgt := 64) dX10_findGroups_57 (by decide) (fun w3 => ?_) (fun w3 => ?_)
                · refine gX_iconst dX10_findGroups_64 ⟨by decide, by decide⟩ ?_
                  refine gX_istore dX10_findGroups_65 (show (5 : Nat) < 6 from by decide) (ls2 := [some (ga W), some (gi i), some (gi r), some (gi t), some (gi (mbs rd se i r)), some (gi 0)]) rfl ?_
                  refine gX_iload dX10_findGroups_67 rfl ?_
                  refine gX_ifeq (tgt := 102) dX10_findGroups_69 (by decide) (fun w4 => ?_) (fun w4 => by exfalso; omega)
                  refine gX_aloadn dX10_findGroups_102 rfl ?_
                  refine gX_iloadn dX10_findGroups_103 rfl ?_
                  refine gX_iloadn dX10_findGroups_104 rfl ?_
                  refine gX_virt (J := iX10_nextReading) (av := [gi i, gi r]) (a := W) (st := []) dX10_findGroups_105 lkX10_58 kX10_nextReading vX10_nextReading (gFit_m (by decide)) hW.1 rfl rfl (Nat.le_of_ble_eq_true rfl) (Nat.zero_le _) (Nat.zero_le _) rfl ?_
                  refine c_nextReading hW hw1 ⟨by omega, by omega⟩ ?_
                  show gX l E _ 108 [some (ga W), some (gi i), some (gi r), some (gi t), some (gi (mbs rd se i r)), some (gi 0)] [gi (nrd rd se i r)] (K, R, V1) _ _
                  refine gX_istoren dX10_findGroups_108 (show (2 : Nat) < 6 from by decide) (ls2 := [some (ga W), some (gi i), some (gi (nrd rd se i r)), some (gi t), some (gi (mbs rd se i r)), some (gi 0)]) rfl ?_
                  refine gX_iinc dX10_findGroups_109 rfl (show (3 : Nat) < 6 from by decide) ⟨by omega, by omega⟩ (ls2 := [some (ga W), some (gi i), some (gi (nrd rd se i r)), some (gi (t + 1)), some (gi (mbs rd se i r)), some (gi 0)]) rfl ?_
                  refine gX_goto (tgt := 27) dX10_findGroups_112 (by decide) ?_
                  have ek : (10 - t).toNat = (10 - (t + 1)).toNat + 1 := by omega
                  have e1 : fgI rd ba se i (10 - t).toNat r g = fgI rd ba se i (10 - (t + 1)).toNat (nrd rd se i r) g := by
                    rw [ek]
                    show (if _ then fgI rd ba se i _ _ (if _ then _ else _) else _) = _
                    rw [if_pos (by omega), if_neg (by rintro ⟨z1, z2, z3⟩; first | omega | (rw [if_neg z3] at *; omega))]
                  rw [e1] at hk2
                  exact ih (t + 1) _ _ _ g V1 _ _ (by omega) (by omega) (by omega) hw1 hx1 hf1 hk2
                · refine gX_iconst dX10_findGroups_60 ⟨by decide, by decide⟩ ?_
                  refine gX_goto (tgt := 65) dX10_findGroups_61 (by decide) ?_
                  refine gX_istore dX10_findGroups_65 (show (5 : Nat) < 6 from by decide) (ls2 := [some (ga W), some (gi i), some (gi r), some (gi t), some (gi (mbs rd se i r)), some (gi 1)]) rfl ?_
                  refine gX_iload dX10_findGroups_67 rfl ?_
                  refine gX_ifeq (tgt := 102) dX10_findGroups_69 (by decide) (fun w5 => by exfalso; omega) (fun w5 => ?_)
                  refine gX_iload dX10_findGroups_72 rfl ?_
                  refine gX_stat (J := iJ6_bitCount_0f7a4) (av := [gi (mbs rd se i r)]) (st := []) dX10_findGroups_74 lkX10_78 kJ6_bitCount_0f7a4 sJ6_bitCount_0f7a4 (gFit_m (by decide)) rfl (Nat.le_of_ble_eq_true rfl) (Nat.zero_le _) (Nat.zero_le _) rfl ?_
                  refine c_bitCount (mbs_bd rd se i r) ?_
                  show gX l E _ 77 [some (ga W), some (gi i), some (gi r), some (gi t), some (gi (mbs rd se i r)), some (gi 1)] [gi (popc (mbs rd se i r))] (K, R, V1) _ _
                  refine gX_iconst dX10_findGroups_77 ⟨by decide, by decide⟩ ?_
                  refine gX_icmplt (tgt := 102) dX10_findGroups_78 (by decide) (fun w6 => ?_) (fun w6 => ?_)
                  · refine gX_aloadn dX10_findGroups_102 rfl ?_
                    refine gX_iloadn dX10_findGroups_103 rfl ?_
                    refine gX_iloadn dX10_findGroups_104 rfl ?_
                    refine gX_virt (J := iX10_nextReading) (av := [gi i, gi r]) (a := W) (st := []) dX10_findGroups_105 lkX10_58 kX10_nextReading vX10_nextReading (gFit_m (by decide)) hW.1 rfl rfl (Nat.le_of_ble_eq_true rfl) (Nat.zero_le _) (Nat.zero_le _) rfl ?_
                    refine c_nextReading hW hw1 ⟨by omega, by omega⟩ ?_
                    show gX l E _ 108 [some (ga W), some (gi i), some (gi r), some (gi t), some (gi (mbs rd se i r)), some (gi 1)] [gi (nrd rd se i r)] (K, R, V1) _ _
                    refine gX_istoren dX10_findGroups_108 (show (2 : Nat) < 6 from by decide) (ls2 := [some (ga W), some (gi i), some (gi (nrd rd se i r)), some (gi t), some (gi (mbs rd se i r)), some (gi 1)]) rfl ?_
                    refine gX_iinc dX10_findGroups_109 rfl (show (3 : Nat) < 6 from by decide) ⟨by omega, by omega⟩ (ls2 := [some (ga W), some (gi i), some (gi (nrd rd se i r)), some (gi (t + 1)), some (gi (mbs rd se i r)), some (gi 1)]) rfl ?_
                    refine gX_goto (tgt := 27) dX10_findGroups_112 (by decide) ?_
                    have ek : (10 - t).toNat = (10 - (t + 1)).toNat + 1 := by omega
                    have e1 : fgI rd ba se i (10 - t).toNat r g = fgI rd ba se i (10 - (t + 1)).toNat (nrd rd se i r) g := by
                      rw [ek]
                      show (if _ then fgI rd ba se i _ _ (if _ then _ else _) else _) = _
                      rw [if_pos (by omega), if_neg (by rintro ⟨z1, z2, z3⟩; first | omega | (rw [if_neg z3] at *; omega))]
                    rw [e1] at hk2
                    exact ih (t + 1) _ _ _ g V1 _ _ (by omega) (by omega) (by omega) hw1 hx1 hf1 hk2
                  · refine gX_aloadn dX10_findGroups_81 rfl ?_
                    refine gX_gR 1 dX10_findGroups_82 fdX10_20 rfl rfl hW.1 hW.2.2.1 ?_
                    refine gX_iload dX10_findGroups_85 rfl ?_
                    refine gX_virt (J := iX6_holds) (av := [gi (mbs rd se i r)]) (a := (W + 3)) (st := []) dX10_findGroups_87 lkX10_83 kX6_holds vX6_holds (gFit_m (by decide)) hW.2.2.2.2.2.1.1 rfl rfl (Nat.le_of_ble_eq_true rfl) (Nat.zero_le _) (Nat.zero_le _) rfl ?_
                    refine q_Row_holds hW.2.2.2.2.2.1 hx1 ?_
                    show gX l E _ 90 [some (ga W), some (gi i), some (gi r), some (gi t), some (gi (mbs rd se i r)), some (gi 1)] [gi (if mbs rd se i r ∈ g then 1 else 0)] (K, R, V1) _ _
                    refine gX_ifne (tgt := 102) dX10_findGroups_90 (by decide) (fun w7 => ?_) (fun w7 => ?_)
                    · refine gX_aloadn dX10_findGroups_102 rfl ?_
                      refine gX_iloadn dX10_findGroups_103 rfl ?_
                      refine gX_iloadn dX10_findGroups_104 rfl ?_
                      refine gX_virt (J := iX10_nextReading) (av := [gi i, gi r]) (a := W) (st := []) dX10_findGroups_105 lkX10_58 kX10_nextReading vX10_nextReading (gFit_m (by decide)) hW.1 rfl rfl (Nat.le_of_ble_eq_true rfl) (Nat.zero_le _) (Nat.zero_le _) rfl ?_
                      refine c_nextReading hW hw1 ⟨by omega, by omega⟩ ?_
                      show gX l E _ 108 [some (ga W), some (gi i), some (gi r), some (gi t), some (gi (mbs rd se i r)), some (gi 1)] [gi (nrd rd se i r)] (K, R, V1) _ _
                      refine gX_istoren dX10_findGroups_108 (show (2 : Nat) < 6 from by decide) (ls2 := [some (ga W), some (gi i), some (gi (nrd rd se i r)), some (gi t), some (gi (mbs rd se i r)), some (gi 1)]) rfl ?_
                      refine gX_iinc dX10_findGroups_109 rfl (show (3 : Nat) < 6 from by decide) ⟨by omega, by omega⟩ (ls2 := [some (ga W), some (gi i), some (gi (nrd rd se i r)), some (gi (t + 1)), some (gi (mbs rd se i r)), some (gi 1)]) rfl ?_
                      refine gX_goto (tgt := 27) dX10_findGroups_112 (by decide) ?_
                      have ek : (10 - t).toNat = (10 - (t + 1)).toNat + 1 := by omega
                      have e1 : fgI rd ba se i (10 - t).toNat r g = fgI rd ba se i (10 - (t + 1)).toNat (nrd rd se i r) g := by
                        rw [ek]
                        show (if _ then fgI rd ba se i _ _ (if _ then _ else _) else _) = _
                        rw [if_pos (by omega), if_neg (by rintro ⟨z1, z2, z3⟩; first | omega | (rw [if_neg z3] at *; omega))]
                      rw [e1] at hk2
                      exact ih (t + 1) _ _ _ g V1 _ _ (by omega) (by omega) (by omega) hw1 hx1 hf1 hk2
                    · refine gX_aloadn dX10_findGroups_93 rfl ?_
                      refine gX_gR 1 dX10_findGroups_94 fdX10_20 rfl rfl hW.1 hW.2.2.1 ?_
                      refine gX_iload dX10_findGroups_97 rfl ?_
                      refine gX_virt (J := iX6_add) (av := [gi (mbs rd se i r)]) (a := (W + 3)) (st := []) dX10_findGroups_99 lkX10_72 kX6_add vX6_add (gFit_m (by decide)) hW.2.2.2.2.2.1.1 rfl rfl (Nat.le_of_ble_eq_true rfl) (Nat.zero_le _) (Nat.zero_le _) rfl ?_
                      refine q_Row_add hW.2.2.2.2.2.1 hx1 (fun V2 hx2 hf2 => ?_)
                      show gX l E _ 102 [some (ga W), some (gi i), some (gi r), some (gi t), some (gi (mbs rd se i r)), some (gi 1)] [] (K, R, V2) _ _
                      refine gX_aloadn dX10_findGroups_102 rfl ?_
                      refine gX_iloadn dX10_findGroups_103 rfl ?_
                      refine gX_iloadn dX10_findGroups_104 rfl ?_
                      refine gX_virt (J := iX10_nextReading) (av := [gi i, gi r]) (a := W) (st := []) dX10_findGroups_105 lkX10_58 kX10_nextReading vX10_nextReading (gFit_m (by decide)) hW.1 rfl rfl (Nat.le_of_ble_eq_true rfl) (Nat.zero_le _) (Nat.zero_le _) rfl ?_
                      refine c_nextReading hW (hw1.kept (hf2 _ (by omega) (by omega)) (hf2 _ (by omega) (by omega)) (hf2 _ (by omega) (by omega))) ⟨by omega, by omega⟩ ?_
                      show gX l E _ 108 [some (ga W), some (gi i), some (gi r), some (gi t), some (gi (mbs rd se i r)), some (gi 1)] [gi (nrd rd se i r)] (K, R, V2) _ _
                      refine gX_istoren dX10_findGroups_108 (show (2 : Nat) < 6 from by decide) (ls2 := [some (ga W), some (gi i), some (gi (nrd rd se i r)), some (gi t), some (gi (mbs rd se i r)), some (gi 1)]) rfl ?_
                      refine gX_iinc dX10_findGroups_109 rfl (show (3 : Nat) < 6 from by decide) ⟨by omega, by omega⟩ (ls2 := [some (ga W), some (gi i), some (gi (nrd rd se i r)), some (gi (t + 1)), some (gi (mbs rd se i r)), some (gi 1)]) rfl ?_
                      refine gX_goto (tgt := 27) dX10_findGroups_112 (by decide) ?_
                      have ek : (10 - t).toNat = (10 - (t + 1)).toNat + 1 := by omega
                      have e1 : fgI rd ba se i (10 - t).toNat r g = fgI rd ba se i (10 - (t + 1)).toNat (nrd rd se i r) (ladd 160 g (mbs rd se i r)) := by
                        rw [ek]
                        show (if _ then fgI rd ba se i _ _ (if _ then _ else _) else _) = _
                        rw [if_pos (by omega), if_pos ⟨by omega, by omega, fun z3 => by rw [if_pos z3] at *; omega⟩]
                      rw [e1] at hk2
                      exact ih (t + 1) _ _ _ _ V2 _ _ (by omega) (by omega) (by omega) (hw1.kept (hf2 _ (by omega) (by omega)) (hf2 _ (by omega) (by omega)) (hf2 _ (by omega) (by omega))) hx2 (hf1.trans hf2) hk2
        refine lq 11 0 (nrd rd se i (-2)) _ _ g V1 _ _ (by omega) (by omega) (by omega) hw1 hx1 hf1 (fun V3 r2 t2 j4 j5 bc bs hw3 hx3 hf3 => ?_)
        refine gX_iinc dX10_findGroups_115 rfl (show (1 : Nat) < 6 from by decide) ⟨by omega, by omega⟩ (ls2 := [some (ga W), some (gi (i + 1)), r2, t2, j4, j5]) rfl ?_
        refine gX_goto (tgt := 9) dX10_findGroups_118 (by decide) ?_
        have ek : (pl - i).toNat = (pl - (i + 1)).toNat + 1 := by omega
        have e1 : fgF rd ba se (pl - i).toNat i g = fgF rd ba se (pl - (i + 1)).toNat (i + 1) (fgI rd ba se i 10 (nrd rd se i (-2)) g) := by rw [ek]; rfl
        rw [e1] at hq2
        exact ih (i + 1) _ _ _ _ _ V3 _ _ (by omega) (by omega) (by omega) hw3 hx3 hf3 hq2
  refine gX_aloadn dX10_findGroups_0 rfl ?_
  refine gX_gR 1 dX10_findGroups_1 fdX10_20 rfl rfl hW.1 hW.2.2.1 ?_
  refine gX_virt (J := iX6_clear) (av := []) (a := (W + 3)) (st := []) dX10_findGroups_4 lkX10_66 kX6_clear vX6_clear (gFit_m (by decide)) hW.2.2.2.2.2.1.1 rfl rfl (Nat.le_of_ble_eq_true rfl) (Nat.zero_le _) (Nat.zero_le _) rfl ?_
  refine q_Row_clear hW.2.2.2.2.2.1 (fun V1 hx1 hf1 => ?_)
  show gX l E _ 7 [some (ga W), none, none, none, none, none] [] (K, R, V1) _ _
  refine gX_iconst dX10_findGroups_7 ⟨by decide, by decide⟩ ?_
  refine gX_istoren dX10_findGroups_8 (show (1 : Nat) < 6 from by decide) (ls2 := [some (ga W), some (gi 0), none, none, none, none]) rfl ?_
  exact lp 41 0 _ _ _ _ [] V1 _ _ (by omega) (by omega) (by omega) (hw.kept (hf1 _ (by omega) (by omega)) (hf1 _ (by omega) (by omega)) (hf1 _ (by omega) (by omega))) hx1 hf1 (by rw [show (pl - 0).toNat = pl.toNat by omega]; exact hQ)
end WIT4
