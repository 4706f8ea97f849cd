/-! Witnesses: what is restored, what is sound. Written by wip/whole/tools/mk_wit2.py. -/
section WIT2
variable {l : Launch} {E : gE} {d : Nat} {K : List gK} {R V : Int → Int → Int} {W : Int} {Q : gQ} {rd gr : List Int} {ba se pl : Int}
set_option maxRecDepth 4000 in
theorem c_soundGroups (hW : wtK K R W) (hg : rIs V (W + 3) 160 gr) (hQ : ∀ V', rIs V' (W + 5) 160 (sdF gr gr.length 0 []) → rFr V V' (W + 5) → Q (some (ga (W + 5))) (K, R, V')) : gC l E (d + 3) iX10_soundGroups [ga W] (K, R, V) Q := by
  refine gC_of kX10_soundGroups (ls := [some (ga W), none]) rfl (Nat.le_of_ble_eq_true rfl) ?_
  have hgl := hg.2.1
  have lp : ∀ (jj : Nat) (i : Int) (o1 : List Int) (V1 : Int → Int → Int) (bc bs : Nat), (gr.length : Int) - i < (jj : Int) → 0 ≤ i → i ≤ gr.length → rIs V1 (W + 3) 160 gr → rIs V1 (W + 5) 160 o1 → rFr V V1 (W + 5) → (∀ V', rIs V' (W + 5) 160 (sdF gr (gr.length - i.toNat) i o1) → rFr V V' (W + 5) → Q (some (ga (W + 5))) (K, R, V')) → gX l E (gFm E (d + 3) iX10_soundGroups Q) 9 [some (ga W), some (gi i)] [] (K, R, V1) bc bs := by
    intro jj
    induction jj with
    | zero =>
      intro i o1 V1 bc bs hj q0 q1 hg1 hx1 hf1 hq2
      exfalso; omega
    | succ jj ih =>
      intro i o1 V1 bc bs hj q0 q1 hg1 hx1 hf1 hq2
      refine gX_iloadn dX10_soundGroups_9 rfl ?_
      refine gX_aloadn dX10_soundGroups_10 rfl ?_
      refine gX_gR 1 dX10_soundGroups_11 fdX10_20 rfl rfl hW.1 hW.2.2.1 ?_
      refine gX_virt (J := iX6_length) (av := []) (a := (W + 3)) (st := [gi i]) dX10_soundGroups_14 lkX10_87 kX6_length vX6_length (gFit_m (by decide)) hW.2.2.2.2.2.1.1 rfl rfl (Nat.le_of_ble_eq_true rfl) (Nat.zero_le _) (Nat.zero_le _) rfl ?_
      refine q_Row_length hW.2.2.2.2.2.1 hg1 ?_
      show gX l E _ 17 [some (ga W), some (gi i)] [gi gr.length, gi i] (K, R, V1) _ _
      refine gX_icmpge (tgt := 56) dX10_soundGroups_17 (by decide) (fun w1 => ?_) (fun w1 => ?_)
      · refine gX_aloadn dX10_soundGroups_56 rfl ?_
        refine gX_gR 2 dX10_soundGroups_57 fdX10_23 rfl rfl hW.1 hW.2.2.2.1 ?_
        refine gX_aret dX10_soundGroups_60 rfl rfl ?_
        have ei : gr.length - i.toNat = 0 := by omega
        rw [ei] at hq2
        exact hq2 V1 hx1 hf1
      · refine gX_aloadn dX10_soundGroups_20 rfl ?_
        refine gX_aloadn dX10_soundGroups_21 rfl ?_
        refine gX_gR 1 dX10_soundGroups_22 fdX10_20 rfl rfl hW.1 hW.2.2.1 ?_
        refine gX_iloadn dX10_soundGroups_25 rfl ?_
        refine gX_virt (J := iX6_at) (av := [gi i]) (a := (W + 3)) (st := [ga W]) dX10_soundGroups_26 lkX10_43 kX6_at vX6_at (gFit_m (by decide)) hW.2.2.2.2.2.1.1 rfl rfl (Nat.le_of_ble_eq_true rfl) (Nat.zero_le _) (Nat.zero_le _) rfl ?_
        refine q_Row_at hW.2.2.2.2.2.1 hg1 ?_
        show gX l E _ 29 [some (ga W), some (gi i)] [gi (lat gr i), ga W] (K, R, V1) _ _
        refine gX_virt (J := iX10_isSound) (av := [gi (lat gr i)]) (a := W) (st := []) dX10_soundGroups_29 lkX10_94 kX10_isSound vX10_isSound (gFit_m (by decide)) hW.1 rfl rfl (Nat.le_of_ble_eq_true rfl) (Nat.zero_le _) (Nat.zero_le _) rfl ?_
        refine c_isSound hW hg1 ?_
        show gX l E _ 32 [some (ga W), some (gi i)] [gi (b2i (snd' gr (lat gr i) gr.length 0))] (K, R, V1) _ _
        refine gX_ifeq (tgt := 50) dX10_soundGroups_32 (by decide) (fun w2 => ?_) (fun w2 => ?_)
        · refine gX_iinc dX10_soundGroups_50 rfl (show (1 : Nat) < 2 from by decide) ⟨by omega, by omega⟩ (ls2 := [some (ga W), some (gi (i + 1))]) rfl ?_
          refine gX_goto (tgt := 9) dX10_soundGroups_53 (by decide) ?_
          have ek : gr.length - i.toNat = (gr.length - (i + 1).toNat) + 1 := by omega
          have e1 : sdF gr (gr.length - i.toNat) i o1 = sdF gr (gr.length - (i + 1).toNat) (i + 1) o1 := by
            rw [ek]
            show sdF gr _ _ (if _ then _ else _) = _
            rw [if_neg (by rw [b2i_0 (b := snd' gr (lat gr i) gr.length 0) (by assumption)]; decide)]
          rw [e1] at hq2
          exact ih (i + 1) o1 V1 _ _ (by omega) (by omega) (by omega) hg1 hx1 hf1 hq2
        · refine gX_aloadn dX10_soundGroups_35 rfl ?_
          refine gX_gR 2 dX10_soundGroups_36 fdX10_23 rfl rfl hW.1 hW.2.2.2.1 ?_
          refine gX_aloadn dX10_soundGroups_39 rfl ?_
          refine gX_gR 1 dX10_soundGroups_40 fdX10_20 rfl rfl hW.1 hW.2.2.1 ?_
          refine gX_iloadn dX10_soundGroups_43 rfl ?_
          refine gX_virt (J := iX6_at) (av := [gi i]) (a := (W + 3)) (st := [ga (W + 5)]) dX10_soundGroups_44 lkX10_43 kX6_at vX6_at (gFit_m (by decide)) hW.2.2.2.2.2.1.1 rfl rfl (Nat.le_of_ble_eq_true rfl) (Nat.zero_le _) (Nat.zero_le _) rfl ?_
          refine q_Row_at hW.2.2.2.2.2.1 hg1 ?_
          show gX l E _ 47 [some (ga W), some (gi i)] [gi (lat gr i), ga (W + 5)] (K, R, V1) _ _
          refine gX_virt (J := iX6_add) (av := [gi (lat gr i)]) (a := (W + 5)) (st := []) dX10_soundGroups_47 lkX10_72 kX6_add vX6_add (gFit_m (by decide)) hW.2.2.2.2.2.2.1 rfl rfl (Nat.le_of_ble_eq_true rfl) (Nat.zero_le _) (Nat.zero_le _) rfl ?_
          refine q_Row_add hW.2.2.2.2.2.2 hx1 (fun V2 hx2 hf2 => ?_)
          show gX l E _ 50 [some (ga W), some (gi i)] [] (K, R, V2) _ _
          refine gX_iinc dX10_soundGroups_50 rfl (show (1 : Nat) < 2 from by decide) ⟨by omega, by omega⟩ (ls2 := [some (ga W), some (gi (i + 1))]) rfl ?_
          refine gX_goto (tgt := 9) dX10_soundGroups_53 (by decide) ?_
          have ek : gr.length - i.toNat = (gr.length - (i + 1).toNat) + 1 := by omega
          have e1 : sdF gr (gr.length - i.toNat) i o1 = sdF gr (gr.length - (i + 1).toNat) (i + 1) (ladd 160 o1 (lat gr i)) := by
            rw [ek]
            show sdF gr _ _ (if _ then _ else _) = _
            rw [if_pos (b2i_1 (b := snd' gr (lat gr i) gr.length 0) (by assumption))]
          rw [e1] at hq2
          exact ih (i + 1) _ V2 _ _ (by omega) (by omega) (by omega) (hg1.kept (hf2 _ (by omega) (by omega)) (hf2 _ (by omega) (by omega))) hx2 (hf1.trans hf2) hq2
  refine gX_aloadn dX10_soundGroups_0 rfl ?_
  refine gX_gR 2 dX10_soundGroups_1 fdX10_23 rfl rfl hW.1 hW.2.2.2.1 ?_
  refine gX_virt (J := iX6_clear) (av := []) (a := (W + 5)) (st := []) dX10_soundGroups_4 lkX10_66 kX6_clear vX6_clear (gFit_m (by decide)) hW.2.2.2.2.2.2.1 rfl rfl (Nat.le_of_ble_eq_true rfl) (Nat.zero_le _) (Nat.zero_le _) rfl ?_
  refine q_Row_clear hW.2.2.2.2.2.2 (fun V1 hx1 hf1 => ?_)
  show gX l E _ 7 [some (ga W), none] [] (K, R, V1) _ _
  refine gX_iconst dX10_soundGroups_7 ⟨by decide, by decide⟩ ?_
  refine gX_istoren dX10_soundGroups_8 (show (1 : Nat) < 2 from by decide) (ls2 := [some (ga W), some (gi 0)]) rfl ?_
  exact lp (gr.length + 1) 0 [] V1 _ _ (by omega) (by omega) (by omega) (hg.kept (hf1 _ (by omega) (by omega)) (hf1 _ (by omega) (by omega))) hx1 hf1 hQ
set_option maxRecDepth 4000 in
theorem c_restored (hW : wtK K R W) (hw : wtIs V W rd ba se pl) (hba : 0 ≤ ba ∧ ba < 10) (hpl : 0 ≤ pl ∧ pl ≤ 40) (hQ : ∀ V', rIs V' (W + 5) 160 (rsF rd ba se pl.toNat 0 []) → rFr V V' (W + 5) → Q (some (ga (W + 5))) (K, R, V')) : gC l E (d + 5) iX10_restoredText [ga W] (K, R, V) Q := by
  refine gC_of kX10_restoredText (ls := [some (ga W), none, none]) rfl (Nat.le_of_ble_eq_true rfl) ?_
  have lp : ∀ (jj : Nat) (i : Int) (o1 : List Int) (j2 : Option gV) (V1 : Int → Int → Int) (bc bs : Nat), pl - i < (jj : Int) → 0 ≤ i → i ≤ pl → wtIs V1 W rd ba se pl → rIs V1 (W + 5) 160 o1 → rFr V V1 (W + 5) → (∀ V', rIs V' (W + 5) 160 (rsF rd ba se (pl - i).toNat i o1) → rFr V V' (W + 5) → Q (some (ga (W + 5))) (K, R, V')) → gX l E (gFm E (d + 5) iX10_restoredText Q) 9 [some (ga W), some (gi i), j2] [] (K, R, V1) bc bs := by
    intro jj
    induction jj with
    | zero =>
      intro i o1 j2 V1 bc bs hj q0 q1 hw1 hx1 hf1 hq2
      exfalso; omega
    | succ jj ih =>
      intro i o1 j2 V1 bc bs hj q0 q1 hw1 hx1 hf1 hq2
      refine gX_iloadn dX10_restoredText_9 rfl ?_
      refine gX_aloadn dX10_restoredText_10 rfl ?_
      refine gX_gI 5 dX10_restoredText_11 fdX10_33 rfl (Or.inl rfl) hW.1 ?_
      rw [hw1.2.2.2]
      refine gX_icmpge (tgt := 42) dX10_restoredText_14 (by decide) (fun w1 => ?_) (fun w1 => ?_)
      · refine gX_aloadn dX10_restoredText_42 rfl ?_
        refine gX_gR 2 dX10_restoredText_43 fdX10_23 rfl rfl hW.1 hW.2.2.2.1 ?_
        refine gX_aret dX10_restoredText_46 rfl rfl ?_
        have ei : (pl - i).toNat = 0 := by omega
        rw [ei] at hq2
        exact hq2 V1 hx1 hf1
      · refine gX_aloadn dX10_restoredText_17 rfl ?_
        refine gX_iloadn dX10_restoredText_18 rfl ?_
        refine gX_virt (J := iX10_mostAt) (av := [gi i]) (a := W) (st := []) dX10_restoredText_19 lkX10_69 kX10_mostAt vX10_mostAt (gFit_m (by decide)) hW.1 rfl rfl (Nat.le_of_ble_eq_true rfl) (Nat.zero_le _) (Nat.zero_le _) rfl ?_
        refine c_mostAt hW hw1 ⟨by omega, by omega⟩ hba ?_
        show gX l E _ 22 [some (ga W), some (gi i), j2] [gi (moA rd ba se i)] (K, R, V1) _ _
        refine gX_istoren dX10_restoredText_22 (show (2 : Nat) < 3 from by decide) (ls2 := [some (ga W), some (gi i), some (gi (moA rd ba se i))]) rfl ?_
        refine gX_iloadn dX10_restoredText_23 rfl ?_
        refine gX_iconst dX10_restoredText_24 ⟨by decide, by decide⟩ ?_
        refine gX_icmpeq (tgt := 36) dX10_restoredText_25 (by decide) (fun w2 => ?_) (fun w2 => ?_)
        · refine gX_iinc dX10_restoredText_36 rfl (show (1 : Nat) < 3 from by decide) ⟨by omega, by omega⟩ (ls2 := [some (ga W), some (gi (i + 1)), some (gi (moA rd ba se i))]) rfl ?_
          refine gX_goto (tgt := 9) dX10_restoredText_39 (by decide) ?_
          have ek : (pl - i).toNat = (pl - (i + 1)).toNat + 1 := by omega
          have e1 : rsF rd ba se (pl - i).toNat i o1 = rsF rd ba se (pl - (i + 1)).toNat (i + 1) o1 := by
            rw [ek]
            show rsF rd ba se _ _ (if _ then _ else _) = _
            rw [if_pos (by omega)]
          rw [e1] at hq2
          exact ih (i + 1) o1 _ V1 _ _ (by omega) (by omega) (by omega) hw1 hx1 hf1 hq2
        · refine gX_aloadn dX10_restoredText_28 rfl ?_
          refine gX_gR 2 dX10_restoredText_29 fdX10_23 rfl rfl hW.1 hW.2.2.2.1 ?_
          refine gX_iloadn dX10_restoredText_32 rfl ?_
          refine gX_virt (J := iX6_add) (av := [gi (moA rd ba se i)]) (a := (W + 5)) (st := []) dX10_restoredText_33 lkX10_72 kX6_add vX6_add (gFit_m (by decide)) hW.2.2.2.2.2.2.1 rfl rfl (Nat.le_of_ble_eq_true rfl) (Nat.zero_le _) (Nat.zero_le _) rfl ?_
          refine q_Row_add hW.2.2.2.2.2.2 hx1 (fun V2 hx2 hf2 => ?_)
          show gX l E _ 36 [some (ga W), some (gi i), some (gi (moA rd ba se i))] [] (K, R, V2) _ _
          refine gX_iinc dX10_restoredText_36 rfl (show (1 : Nat) < 3 from by decide) ⟨by omega, by omega⟩ (ls2 := [some (ga W), some (gi (i + 1)), some (gi (moA rd ba se i))]) rfl ?_
          refine gX_goto (tgt := 9) dX10_restoredText_39 (by decide) ?_
          have ek : (pl - i).toNat = (pl - (i + 1)).toNat + 1 := by omega
          have e1 : rsF rd ba se (pl - i).toNat i o1 = rsF rd ba se (pl - (i + 1)).toNat (i + 1) (ladd 160 o1 (moA rd ba se i)) := by
            rw [ek]
            show rsF rd ba se _ _ (if _ then _ else _) = _
            rw [if_neg (by omega)]
          rw [e1] at hq2
          exact ih (i + 1) _ _ V2 _ _ (by omega) (by omega) (by omega) (hw1.kept (hf2 _ (by omega) (by omega)) (hf2 _ (by omega) (by omega)) (hf2 _ (by omega) (by omega))) hx2 (hf1.trans hf2) hq2
  refine gX_aloadn dX10_restoredText_0 rfl ?_
  refine gX_gR 2 dX10_restoredText_1 fdX10_23 rfl rfl hW.1 hW.2.2.2.1 ?_
  refine gX_virt (J := iX6_clear) (av := []) (a := (W + 5)) (st := []) dX10_restoredText_4 lkX10_66 kX6_clear vX6_clear (gFit_m (by decide)) hW.2.2.2.2.2.2.1 rfl rfl (Nat.le_of_ble_eq_true rfl) (Nat.zero_le _) (Nat.zero_le _) rfl ?_
  refine q_Row_clear hW.2.2.2.2.2.2 (fun V1 hx1 hf1 => ?_)
  show gX l E _ 7 [some (ga W), none, none] [] (K, R, V1) _ _
  refine gX_iconst dX10_restoredText_7 ⟨by decide, by decide⟩ ?_
  refine gX_istoren dX10_restoredText_8 (show (1 : Nat) < 3 from by decide) (ls2 := [some (ga W), some (gi 0), none]) rfl ?_
  exact lp 41 0 [] none V1 _ _ (by omega) (by omega) (by omega) (hw.kept (hf1 _ (by omega) (by omega)) (hf1 _ (by omega) (by omega)) (hf1 _ (by omega) (by omega))) hx1 hf1 (by rw [show (pl - 0).toNat = pl.toNat by omega]; exact hQ)
end WIT2
