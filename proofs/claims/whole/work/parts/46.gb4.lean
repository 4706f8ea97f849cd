/-! GlossedBooks: what most have, what is restored, groups, trees. Written by wip/whole/tools/mk_gb4.py. -/
section GB4
variable {l : Launch} {E : gE} {d : Nat} {K : List gK} {R V : Int → Int → Int} {D T P S' A W L U a b i w ba se ro : Int} {Q : gQ} {S : gbS}
set_option maxRecDepth 4000 in
theorem c_most (hG : gbK K R D T P S' A W L U) (hS : gbIs V S) (hQ : ∀ V', gbIs V' S → gFr V V' 0 775 → Q (some (gi (aMost S ba se i w))) (K, R, V')) : gC l E (d + 6) iX11_most [ga 0, gi ba, gi se, gi i, gi w] (K, R, V) Q := by
  refine gC_of kX11_most (ls := [some (ga 0), some (gi ba), some (gi se), some (gi i), some (gi w), none, none]) rfl (Nat.le_of_ble_eq_true rfl) ?_
  have hG0 := hG
  obtain ⟨⟨eD, eT, eP, eS, eA, eW, eL, eU⟩, hO, ⟨r0, r1, r2, r3, r4, r5, r6, r7, r8, r9⟩, k1, k2, hDr, hTo, hRe, hSc, hAl, hWt, hTr, hPr, hBk, hHd⟩ := hG
  have hn0 := hS.1
  have hn1 := hS.2.1
  by_cases hr1 : 0 ≤ ba ∧ ba < S.1.length
  · obtain ⟨B, eB⟩ : ∃ B : Int, B = 39 + 70 * ba := ⟨_, rfl⟩
    have hB : bkK K R B := by rw [eB]; exact (hBk ba (by omega) (by omega)).2
    obtain ⟨q1, eq1⟩ : ∃ q1, q1 = gbq S ba := ⟨_, rfl⟩
    obtain ⟨hb1, hm1⟩ := hS.bk hr1.1 hr1.2 eB
    rw [← eq1] at hb1 hm1
    have ex1 : gbX S ba = q1.1 := by unfold gbX; rw [eq1]
    have hl40 := hb1.1.2.1
    have hx40 : (gbX S ba).length ≤ 40 := by rw [ex1]; exact hl40
    refine gX_aloadn dX11_most_0 rfl ?_
    refine gX_iloadn dX11_most_1 rfl ?_
    refine gX_virt (J := iX11_bookAt) (av := [gi ba]) (a := 0) (st := []) dX11_most_2 lkX11_142 kX11_bookAt vX11_bookAt (gFit_m (by decide)) hO rfl rfl (Nat.le_of_ble_eq_true rfl) (Nat.zero_le _) (Nat.zero_le _) rfl ?_
    refine c_bookAt hG0 hS hr1 eB ?_
    show gX l E _ 5 [some (ga 0), some (gi ba), some (gi se), some (gi i), some (gi w), none, none] [ga B] (K, R, V) _ _
    refine gX_astore dX11_most_5 (show (5 : Nat) < 7 from by decide) (ls2 := [some (ga 0), some (gi ba), some (gi se), some (gi i), some (gi w), some (ga B), none]) rfl ?_
    refine gX_aload dX11_most_7 rfl ?_
    refine gX_ifnull (tgt := 20) dX11_most_9 (by decide) (fun w1 => absurd (kd_pos hB.1) (by omega)) (fun w1 => ?_)
    refine gX_aloadn dX11_most_12 rfl ?_
    refine gX_iloadn dX11_most_13 rfl ?_
    refine gX_virt (J := iX11_isSetOfBooks) (av := [gi se]) (a := 0) (st := []) dX11_most_14 lkX11_252 kX11_isSetOfBooks vX11_isSetOfBooks (gFit_m (by decide)) hO rfl rfl (Nat.le_of_ble_eq_true rfl) (Nat.zero_le _) (Nat.zero_le _) rfl ?_
    refine c_isSet hG0 hS ?_
    show gX l E _ 17 [some (ga 0), some (gi ba), some (gi se), some (gi i), some (gi w), some (ga B), none] [gi (b2i (isS S.1.length se))] (K, R, V) _ _
    refine gX_ifne (tgt := 24) dX11_most_17 (by decide) (fun w2 => ?_) (fun w2 => ?_)
    · refine gX_aload dX11_most_24 rfl ?_
      refine gX_gR 0 dX11_most_26 fdX11_164 rfl rfl hB.1 hB.2.1 ?_
      refine gX_iloadn dX11_most_29 rfl ?_
      refine gX_virt (J := iX6_has) (av := [gi i]) (a := (B + 1)) (st := []) dX11_most_30 lkX11_167 kX6_has vX6_has (gFit_m (by decide)) hB.2.2.2.2.2.2.1.1 rfl rfl (Nat.le_of_ble_eq_true rfl) (Nat.zero_le _) (Nat.zero_le _) rfl ?_
      refine q_Row_has hB.2.2.2.2.2.2.1 hb1.1 ?_
      show gX l E _ 33 [some (ga 0), some (gi ba), some (gi se), some (gi i), some (gi w), some (ga B), none] [gi (lhas q1.1 i)] (K, R, V) _ _
      refine gX_ifeq (tgt := 47) dX11_most_33 (by decide) (fun w3 => ?_) (fun w3 => ?_)
      · refine gX_sipush dX11_most_47 (by decide) ⟨by decide, by decide⟩ ?_
        refine gX_iret dX11_most_50 (Or.inl rfl) ?_
        have ea : aMost S ba se i w = -1002 := by
          unfold aMost
          rw [if_pos ⟨hr1, b2i_1 (by assumption)⟩, ex1, if_neg (by rintro ⟨z1, z2⟩; first | omega | (have z9 : lhas q1.1 i = 1 := if_pos z1; omega))]
        rw [ea] at hQ
        exact hQ V hS gFr.rf
      · refine gX_iload dX11_most_36 rfl ?_
        refine gX_iflt (tgt := 47) dX11_most_38 (by decide) (fun w4 => ?_) (fun w4 => ?_)
        · refine gX_sipush dX11_most_47 (by decide) ⟨by decide, by decide⟩ ?_
          refine gX_iret dX11_most_50 (Or.inl rfl) ?_
          have ea : aMost S ba se i w = -1002 := by
            unfold aMost
            rw [if_pos ⟨hr1, b2i_1 (by assumption)⟩, ex1, if_neg (by rintro ⟨z1, z2⟩; first | omega | (have z9 : lhas q1.1 i = 1 := if_pos z1; omega))]
          rw [ea] at hQ
          exact hQ V hS gFr.rf
        · refine gX_iload dX11_most_41 rfl ?_
          refine gX_iconst dX11_most_43 ⟨by decide, by decide⟩ ?_
          refine gX_icmple (tgt := 51) dX11_most_44 (by decide) (fun w5 => ?_) (fun w5 => ?_)
          · have hi8 : 0 ≤ i ∧ i < q1.1.length := Decidable.byContradiction fun z => by have z9 : lhas q1.1 i = 0 := if_neg z; omega
            have hi9 : 0 ≤ i ∧ i < 40 := ⟨by omega, by omega⟩
            refine gX_aloadn dX11_most_51 rfl ?_
            refine gX_iloadn dX11_most_52 rfl ?_
            refine gX_iloadn dX11_most_53 rfl ?_
            refine gX_virt (J := iX11_hearWitnesses) (av := [gi ba, gi se]) (a := 0) (st := []) dX11_most_54 lkX11_255 kX11_hearWitnesses vX11_hearWitnesses (gFit_m (by decide)) hO rfl rfl (Nat.le_of_ble_eq_true rfl) (Nat.zero_le _) (Nat.zero_le _) rfl ?_
            refine c_hearW hG0 hS hr1 (fun V1 hw1 hf1 => ?_)
            show gX l E _ 57 [some (ga 0), some (gi ba), some (gi se), some (gi i), some (gi w), some (ga B), none] [] (K, R, V1) _ _
            refine gX_aloadn dX11_most_57 rfl ?_
            refine gX_gR 7 dX11_most_58 fdX11_57 rfl rfl hO r7 ?_
            refine gX_iloadn dX11_most_61 rfl ?_
            refine gX_virt (J := iX10_mostAt) (av := [gi i]) (a := W) (st := []) dX11_most_62 lkX11_258 kX10_mostAt vX10_mostAt (gFit_m (by decide)) hWt.1 rfl rfl (Nat.le_of_ble_eq_true rfl) (Nat.zero_le _) (Nat.zero_le _) rfl ?_
            refine c_mostAt hWt hw1 hi9 ⟨by omega, by omega⟩ ?_
            show gX l E _ 65 [some (ga 0), some (gi ba), some (gi se), some (gi i), some (gi w), some (ga B), none] [gi (moA (hwR S ba se) ba se i)] (K, R, V1) _ _
            refine gX_istore dX11_most_65 (show (6 : Nat) < 7 from by decide) (ls2 := [some (ga 0), some (gi ba), some (gi se), some (gi i), some (gi w), some (ga B), some (gi (moA (hwR S ba se) ba se i))]) rfl ?_
            refine gX_iload dX11_most_67 rfl ?_
            refine gX_ifne (tgt := 77) dX11_most_69 (by decide) (fun w6 => ?_) (fun w6 => ?_)
            · refine gX_aloadn dX11_most_77 rfl ?_
              refine gX_gR 7 dX11_most_78 fdX11_57 rfl rfl hO r7 ?_
              refine gX_iloadn dX11_most_81 rfl ?_
              refine gX_iload dX11_most_82 rfl ?_
              refine gX_virt (J := iX10_votes) (av := [gi i, gi (moA (hwR S ba se) ba se i)]) (a := W) (st := []) dX11_most_84 lkX11_261 kX10_votes vX10_votes (gFit_m (by decide)) hWt.1 rfl rfl (Nat.le_of_ble_eq_true rfl) (Nat.zero_le _) (Nat.zero_le _) rfl ?_
              refine c_votes hWt hw1 hi9 ?_
              show gX l E _ 87 [some (ga 0), some (gi ba), some (gi se), some (gi i), some (gi w), some (ga B), some (gi (moA (hwR S ba se) ba se i))] [gi (vts (hwR S ba se) ba se i (moA (hwR S ba se) ba se i))] (K, R, V1) _ _
              refine gX_iret dX11_most_87 (Or.inl rfl) ?_
              have ea : aMost S ba se i w = vts (hwR S ba se) ba se i (moA (hwR S ba se) ba se i) := by
                unfold aMost
                rw [if_pos ⟨hr1, b2i_1 (by assumption)⟩, ex1, if_pos ⟨Decidable.byContradiction fun z => by have z9 : lhas q1.1 i = 0 := if_neg z; omega, by omega⟩, if_neg (by omega)]
              rw [ea] at hQ
              exact hQ V1 (hS.look (hf1.wide (by omega) (by omega))) (hf1.wide (by omega) (by omega))
            · refine gX_iload dX11_most_72 rfl ?_
              refine gX_goto (tgt := 87) dX11_most_74 (by decide) ?_
              refine gX_iret dX11_most_87 (Or.inl rfl) ?_
              have ea : aMost S ba se i w = moA (hwR S ba se) ba se i := by
                unfold aMost
                rw [if_pos ⟨hr1, b2i_1 (by assumption)⟩, ex1, if_pos ⟨Decidable.byContradiction fun z => by have z9 : lhas q1.1 i = 0 := if_neg z; omega, by omega⟩, if_pos (by omega)]
              rw [ea] at hQ
              exact hQ V1 (hS.look (hf1.wide (by omega) (by omega))) (hf1.wide (by omega) (by omega))
          · refine gX_sipush dX11_most_47 (by decide) ⟨by decide, by decide⟩ ?_
            refine gX_iret dX11_most_50 (Or.inl rfl) ?_
            have ea : aMost S ba se i w = -1002 := by
              unfold aMost
              rw [if_pos ⟨hr1, b2i_1 (by assumption)⟩, ex1, if_neg (by rintro ⟨z1, z2⟩; first | omega | (have z9 : lhas q1.1 i = 1 := if_pos z1; omega))]
            rw [ea] at hQ
            exact hQ V hS gFr.rf
    · refine gX_sipush dX11_most_20 (by decide) ⟨by decide, by decide⟩ ?_
      refine gX_iret dX11_most_23 (Or.inl rfl) ?_
      have ea : aMost S ba se i w = -1001 := by
        unfold aMost
        rw [if_neg (fun z => by rw [b2i_0 (b := isS S.1.length se) (by assumption)] at z; exact absurd z.2 (by decide))]
      rw [ea] at hQ
      exact hQ V hS gFr.rf
  · refine gX_aloadn dX11_most_0 rfl ?_
    refine gX_iloadn dX11_most_1 rfl ?_
    refine gX_virt (J := iX11_bookAt) (av := [gi ba]) (a := 0) (st := []) dX11_most_2 lkX11_142 kX11_bookAt vX11_bookAt (gFit_m (by decide)) hO rfl rfl (Nat.le_of_ble_eq_true rfl) (Nat.zero_le _) (Nat.zero_le _) rfl ?_
    refine c_bookAtN hG0 hS hr1 ?_
    show gX l E _ 5 [some (ga 0), some (gi ba), some (gi se), some (gi i), some (gi w), none, none] [ga (-1)] (K, R, V) _ _
    refine gX_astore dX11_most_5 (show (5 : Nat) < 7 from by decide) (ls2 := [some (ga 0), some (gi ba), some (gi se), some (gi i), some (gi w), some (ga (-1)), none]) rfl ?_
    refine gX_aload dX11_most_7 rfl ?_
    refine gX_ifnull (tgt := 20) dX11_most_9 (by decide) (fun w1 => ?_) (fun w1 => absurd w1 (by omega))
    refine gX_sipush dX11_most_20 (by decide) ⟨by decide, by decide⟩ ?_
    refine gX_iret dX11_most_23 (Or.inl rfl) ?_
    have ea : aMost S ba se i w = -1001 := by
      unfold aMost
      rw [if_neg (fun z => hr1 z.1)]
    rw [ea] at hQ
    exact hQ V hS gFr.rf
set_option maxRecDepth 4000 in
theorem c_gbRestored (hG : gbK K R D T P S' A W L U) (hS : gbIs V S) (hQ : ∀ V', gbIs V' S → gFr V V' 0 775 → Q (some (gi (aRest S ba se i))) (K, R, V')) : gC l E (d + 6) iX11_restored [ga 0, gi ba, gi se, gi i] (K, R, V) Q := by
  refine gC_of kX11_restored (ls := [some (ga 0), some (gi ba), some (gi se), some (gi i), none]) rfl (Nat.le_of_ble_eq_true rfl) ?_
  have hG0 := hG
  obtain ⟨⟨eD, eT, eP, eS, eA, eW, eL, eU⟩, hO, ⟨r0, r1, r2, r3, r4, r5, r6, r7, r8, r9⟩, k1, k2, hDr, hTo, hRe, hSc, hAl, hWt, hTr, hPr, hBk, hHd⟩ := hG
  have hn0 := hS.1
  have hn1 := hS.2.1
  by_cases hr1 : 0 ≤ ba ∧ ba < S.1.length
  · obtain ⟨B, eB⟩ : ∃ B : Int, B = 39 + 70 * ba := ⟨_, rfl⟩
    have hB : bkK K R B := by rw [eB]; exact (hBk ba (by omega) (by omega)).2
    obtain ⟨q1, eq1⟩ : ∃ q1, q1 = gbq S ba := ⟨_, rfl⟩
    obtain ⟨hb1, hm1⟩ := hS.bk hr1.1 hr1.2 eB
    rw [← eq1] at hb1 hm1
    have ex1 : gbX S ba = q1.1 := by unfold gbX; rw [eq1]
    have hl40 := hb1.1.2.1
    have hx40 : (gbX S ba).length ≤ 40 := by rw [ex1]; exact hl40
    refine gX_aloadn dX11_restored_0 rfl ?_
    refine gX_iloadn dX11_restored_1 rfl ?_
    refine gX_virt (J := iX11_bookAt) (av := [gi ba]) (a := 0) (st := []) dX11_restored_2 lkX11_142 kX11_bookAt vX11_bookAt (gFit_m (by decide)) hO rfl rfl (Nat.le_of_ble_eq_true rfl) (Nat.zero_le _) (Nat.zero_le _) rfl ?_
    refine c_bookAt hG0 hS hr1 eB ?_
    show gX l E _ 5 [some (ga 0), some (gi ba), some (gi se), some (gi i), none] [ga B] (K, R, V) _ _
    refine gX_ifnull (tgt := 16) dX11_restored_5 (by decide) (fun w1 => absurd (kd_pos hB.1) (by omega)) (fun w1 => ?_)
    refine gX_aloadn dX11_restored_8 rfl ?_
    refine gX_iloadn dX11_restored_9 rfl ?_
    refine gX_virt (J := iX11_isSetOfBooks) (av := [gi se]) (a := 0) (st := []) dX11_restored_10 lkX11_252 kX11_isSetOfBooks vX11_isSetOfBooks (gFit_m (by decide)) hO rfl rfl (Nat.le_of_ble_eq_true rfl) (Nat.zero_le _) (Nat.zero_le _) rfl ?_
    refine c_isSet hG0 hS ?_
    show gX l E _ 13 [some (ga 0), some (gi ba), some (gi se), some (gi i), none] [gi (b2i (isS S.1.length se))] (K, R, V) _ _
    refine gX_ifne (tgt := 20) dX11_restored_13 (by decide) (fun w2 => ?_) (fun w2 => ?_)
    · refine gX_aloadn dX11_restored_20 rfl ?_
      refine gX_iloadn dX11_restored_21 rfl ?_
      refine gX_iloadn dX11_restored_22 rfl ?_
      refine gX_virt (J := iX11_hearWitnesses) (av := [gi ba, gi se]) (a := 0) (st := []) dX11_restored_23 lkX11_255 kX11_hearWitnesses vX11_hearWitnesses (gFit_m (by decide)) hO rfl rfl (Nat.le_of_ble_eq_true rfl) (Nat.zero_le _) (Nat.zero_le _) rfl ?_
      refine c_hearW hG0 hS hr1 (fun V1 hw1 hf1 => ?_)
      show gX l E _ 26 [some (ga 0), some (gi ba), some (gi se), some (gi i), none] [] (K, R, V1) _ _
      refine gX_aloadn dX11_restored_26 rfl ?_
      refine gX_gR 7 dX11_restored_27 fdX11_57 rfl rfl hO r7 ?_
      refine gX_virt (J := iX10_restoredText) (av := []) (a := W) (st := []) dX11_restored_30 lkX11_265 kX10_restoredText vX10_restoredText (gFit_m (by decide)) hWt.1 rfl rfl (Nat.le_of_ble_eq_true rfl) (Nat.zero_le _) (Nat.zero_le _) rfl ?_
      refine c_restored hWt hw1 ⟨by omega, by omega⟩ ⟨by omega, by omega⟩ (fun V2 hx2 hf2 => ?_)
      show gX l E _ 33 [some (ga 0), some (gi ba), some (gi se), some (gi i), none] [ga (W + 5)] (K, R, V2) _ _
      refine gX_astore dX11_restored_33 (show (4 : Nat) < 5 from by decide) (ls2 := [some (ga 0), some (gi ba), some (gi se), some (gi i), some (ga (W + 5))]) rfl ?_
      refine gX_iloadn dX11_restored_35 rfl ?_
      refine gX_iconst dX11_restored_36 ⟨by decide, by decide⟩ ?_
      refine gX_icmpne (tgt := 48) dX11_restored_37 (by decide) (fun w3 => ?_) (fun w3 => ?_)
      · refine gX_aload dX11_restored_48 rfl ?_
        refine gX_iloadn dX11_restored_50 rfl ?_
        refine gX_virt (J := iX6_at) (av := [gi i]) (a := (W + 5)) (st := []) dX11_restored_51 lkX11_132 kX6_at vX6_at (gFit_m (by decide)) hWt.2.2.2.2.2.2.1 rfl rfl (Nat.le_of_ble_eq_true rfl) (Nat.zero_le _) (Nat.zero_le _) rfl ?_
        refine q_Row_at hWt.2.2.2.2.2.2 hx2 ?_
        show gX l E _ 54 [some (ga 0), some (gi ba), some (gi se), some (gi i), some (ga (W + 5))] [gi (lat (resL S ba se) i)] (K, R, V2) _ _
        refine gX_iret dX11_restored_54 (Or.inl rfl) ?_
        have ea : aRest S ba se i = lat (resL S ba se) i := by
          unfold aRest
          rw [if_pos ⟨hr1, b2i_1 (by assumption)⟩]
          unfold lni
          rw [if_neg (by omega)]
        rw [ea] at hQ
        exact hQ V2 (hS.look ((hf1.wide (by omega) (by omega) : gFr V V1 15 39).trans (hf2.fr (by omega) (by omega)))) (((hf1.wide (by omega) (by omega) : gFr V V1 15 39).trans (hf2.fr (by omega) (by omega))).wide (by omega) (by omega))
      · refine gX_aload dX11_restored_40 rfl ?_
        refine gX_virt (J := iX6_length) (av := []) (a := (W + 5)) (st := []) dX11_restored_42 lkX11_88 kX6_length vX6_length (gFit_m (by decide)) hWt.2.2.2.2.2.2.1 rfl rfl (Nat.le_of_ble_eq_true rfl) (Nat.zero_le _) (Nat.zero_le _) rfl ?_
        refine q_Row_length hWt.2.2.2.2.2.2 hx2 ?_
        show gX l E _ 45 [some (ga 0), some (gi ba), some (gi se), some (gi i), some (ga (W + 5))] [gi ((resL S ba se).length)] (K, R, V2) _ _
        refine gX_goto (tgt := 54) dX11_restored_45 (by decide) ?_
        refine gX_iret dX11_restored_54 (Or.inl rfl) ?_
        have ea : aRest S ba se i = (resL S ba se).length := by
          unfold aRest
          rw [if_pos ⟨hr1, b2i_1 (by assumption)⟩]
          unfold lni
          rw [if_pos (by omega)]
        rw [ea] at hQ
        exact hQ V2 (hS.look ((hf1.wide (by omega) (by omega) : gFr V V1 15 39).trans (hf2.fr (by omega) (by omega)))) (((hf1.wide (by omega) (by omega) : gFr V V1 15 39).trans (hf2.fr (by omega) (by omega))).wide (by omega) (by omega))
    · refine gX_sipush dX11_restored_16 (by decide) ⟨by decide, by decide⟩ ?_
      refine gX_iret dX11_restored_19 (Or.inl rfl) ?_
      have ea : aRest S ba se i = -1001 := by
        unfold aRest
        rw [if_neg (fun z => by rw [b2i_0 (b := isS S.1.length se) (by assumption)] at z; exact absurd z.2 (by decide))]
      rw [ea] at hQ
      exact hQ V hS gFr.rf
  · refine gX_aloadn dX11_restored_0 rfl ?_
    refine gX_iloadn dX11_restored_1 rfl ?_
    refine gX_virt (J := iX11_bookAt) (av := [gi ba]) (a := 0) (st := []) dX11_restored_2 lkX11_142 kX11_bookAt vX11_bookAt (gFit_m (by decide)) hO rfl rfl (Nat.le_of_ble_eq_true rfl) (Nat.zero_le _) (Nat.zero_le _) rfl ?_
    refine c_bookAtN hG0 hS hr1 ?_
    show gX l E _ 5 [some (ga 0), some (gi ba), some (gi se), some (gi i), none] [ga (-1)] (K, R, V) _ _
    refine gX_ifnull (tgt := 16) dX11_restored_5 (by decide) (fun w1 => ?_) (fun w1 => absurd w1 (by omega))
    refine gX_sipush dX11_restored_16 (by decide) ⟨by decide, by decide⟩ ?_
    refine gX_iret dX11_restored_19 (Or.inl rfl) ?_
    have ea : aRest S ba se i = -1001 := by
      unfold aRest
      rw [if_neg (fun z => hr1 z.1)]
    rw [ea] at hQ
    exact hQ V hS gFr.rf
set_option maxRecDepth 4000 in
theorem c_group (hG : gbK K R D T P S' A W L U) (hS : gbIs V S) (hQ : ∀ V', gbIs V' S → gFr V V' 0 775 → Q (some (gi (aGroup S ba se i))) (K, R, V')) : gC l E (d + 6) iX11_group [ga 0, gi ba, gi se, gi i] (K, R, V) Q := by
  refine gC_of kX11_group (ls := [some (ga 0), some (gi ba), some (gi se), some (gi i), none]) rfl (Nat.le_of_ble_eq_true rfl) ?_
  have hG0 := hG
  obtain ⟨⟨eD, eT, eP, eS, eA, eW, eL, eU⟩, hO, ⟨r0, r1, r2, r3, r4, r5, r6, r7, r8, r9⟩, k1, k2, hDr, hTo, hRe, hSc, hAl, hWt, hTr, hPr, hBk, hHd⟩ := hG
  have hn0 := hS.1
  have hn1 := hS.2.1
  by_cases hr1 : 0 ≤ ba ∧ ba < S.1.length
  · obtain ⟨B, eB⟩ : ∃ B : Int, B = 39 + 70 * ba := ⟨_, rfl⟩
    have hB : bkK K R B := by rw [eB]; exact (hBk ba (by omega) (by omega)).2
    obtain ⟨q1, eq1⟩ : ∃ q1, q1 = gbq S ba := ⟨_, rfl⟩
    obtain ⟨hb1, hm1⟩ := hS.bk hr1.1 hr1.2 eB
    rw [← eq1] at hb1 hm1
    have ex1 : gbX S ba = q1.1 := by unfold gbX; rw [eq1]
    have hl40 := hb1.1.2.1
    have hx40 : (gbX S ba).length ≤ 40 := by rw [ex1]; exact hl40
    refine gX_aloadn dX11_group_0 rfl ?_
    refine gX_iloadn dX11_group_1 rfl ?_
    refine gX_virt (J := iX11_bookAt) (av := [gi ba]) (a := 0) (st := []) dX11_group_2 lkX11_142 kX11_bookAt vX11_bookAt (gFit_m (by decide)) hO rfl rfl (Nat.le_of_ble_eq_true rfl) (Nat.zero_le _) (Nat.zero_le _) rfl ?_
    refine c_bookAt hG0 hS hr1 eB ?_
    show gX l E _ 5 [some (ga 0), some (gi ba), some (gi se), some (gi i), none] [ga B] (K, R, V) _ _
    refine gX_ifnull (tgt := 16) dX11_group_5 (by decide) (fun w1 => absurd (kd_pos hB.1) (by omega)) (fun w1 => ?_)
    refine gX_aloadn dX11_group_8 rfl ?_
    refine gX_iloadn dX11_group_9 rfl ?_
    refine gX_virt (J := iX11_isSetOfBooks) (av := [gi se]) (a := 0) (st := []) dX11_group_10 lkX11_252 kX11_isSetOfBooks vX11_isSetOfBooks (gFit_m (by decide)) hO rfl rfl (Nat.le_of_ble_eq_true rfl) (Nat.zero_le _) (Nat.zero_le _) rfl ?_
    refine c_isSet hG0 hS ?_
    show gX l E _ 13 [some (ga 0), some (gi ba), some (gi se), some (gi i), none] [gi (b2i (isS S.1.length se))] (K, R, V) _ _
    refine gX_ifne (tgt := 20) dX11_group_13 (by decide) (fun w2 => ?_) (fun w2 => ?_)
    · refine gX_aloadn dX11_group_20 rfl ?_
      refine gX_iloadn dX11_group_21 rfl ?_
      refine gX_iloadn dX11_group_22 rfl ?_
      refine gX_virt (J := iX11_hearWitnesses) (av := [gi ba, gi se]) (a := 0) (st := []) dX11_group_23 lkX11_255 kX11_hearWitnesses vX11_hearWitnesses (gFit_m (by decide)) hO rfl rfl (Nat.le_of_ble_eq_true rfl) (Nat.zero_le _) (Nat.zero_le _) rfl ?_
      refine c_hearW hG0 hS hr1 (fun V1 hw1 hf1 => ?_)
      show gX l E _ 26 [some (ga 0), some (gi ba), some (gi se), some (gi i), none] [] (K, R, V1) _ _
      refine gX_aloadn dX11_group_26 rfl ?_
      refine gX_gR 7 dX11_group_27 fdX11_57 rfl rfl hO r7 ?_
      refine gX_virt (J := iX10_findGroups) (av := []) (a := W) (st := []) dX11_group_30 lkX11_269 kX10_findGroups vX10_findGroups (gFit_m (by decide)) hWt.1 rfl rfl (Nat.le_of_ble_eq_true rfl) (Nat.zero_le _) (Nat.zero_le _) rfl ?_
      refine c_findGroups hWt hw1 ⟨by omega, by omega⟩ ⟨by omega, by omega⟩ (fun V2 hw2 hx2 hf2 => ?_)
      show gX l E _ 33 [some (ga 0), some (gi ba), some (gi se), some (gi i), none] [ga (W + 3)] (K, R, V2) _ _
      refine gX_astore dX11_group_33 (show (4 : Nat) < 5 from by decide) (ls2 := [some (ga 0), some (gi ba), some (gi se), some (gi i), some (ga (W + 3))]) rfl ?_
      refine gX_iloadn dX11_group_35 rfl ?_
      refine gX_iconst dX11_group_36 ⟨by decide, by decide⟩ ?_
      refine gX_icmpne (tgt := 48) dX11_group_37 (by decide) (fun w3 => ?_) (fun w3 => ?_)
      · refine gX_aload dX11_group_48 rfl ?_
        refine gX_iloadn dX11_group_50 rfl ?_
        refine gX_virt (J := iX6_at) (av := [gi i]) (a := (W + 3)) (st := []) dX11_group_51 lkX11_132 kX6_at vX6_at (gFit_m (by decide)) hWt.2.2.2.2.2.1.1 rfl rfl (Nat.le_of_ble_eq_true rfl) (Nat.zero_le _) (Nat.zero_le _) rfl ?_
        refine q_Row_at hWt.2.2.2.2.2.1 hx2 ?_
        show gX l E _ 54 [some (ga 0), some (gi ba), some (gi se), some (gi i), some (ga (W + 3))] [gi (lat (grpL S ba se) i)] (K, R, V2) _ _
        refine gX_iret dX11_group_54 (Or.inl rfl) ?_
        have ea : aGroup S ba se i = lat (grpL S ba se) i := by
          unfold aGroup
          rw [if_pos ⟨hr1, b2i_1 (by assumption)⟩]
          unfold lni
          rw [if_neg (by omega)]
        rw [ea] at hQ
        exact hQ V2 (hS.look ((hf1.wide (by omega) (by omega) : gFr V V1 15 39).trans (hf2.fr (by omega) (by omega)))) (((hf1.wide (by omega) (by omega) : gFr V V1 15 39).trans (hf2.fr (by omega) (by omega))).wide (by omega) (by omega))
      · refine gX_aload dX11_group_40 rfl ?_
        refine gX_virt (J := iX6_length) (av := []) (a := (W + 3)) (st := []) dX11_group_42 lkX11_88 kX6_length vX6_length (gFit_m (by decide)) hWt.2.2.2.2.2.1.1 rfl rfl (Nat.le_of_ble_eq_true rfl) (Nat.zero_le _) (Nat.zero_le _) rfl ?_
        refine q_Row_length hWt.2.2.2.2.2.1 hx2 ?_
        show gX l E _ 45 [some (ga 0), some (gi ba), some (gi se), some (gi i), some (ga (W + 3))] [gi ((grpL S ba se).length)] (K, R, V2) _ _
        refine gX_goto (tgt := 54) dX11_group_45 (by decide) ?_
        refine gX_iret dX11_group_54 (Or.inl rfl) ?_
        have ea : aGroup S ba se i = (grpL S ba se).length := by
          unfold aGroup
          rw [if_pos ⟨hr1, b2i_1 (by assumption)⟩]
          unfold lni
          rw [if_pos (by omega)]
        rw [ea] at hQ
        exact hQ V2 (hS.look ((hf1.wide (by omega) (by omega) : gFr V V1 15 39).trans (hf2.fr (by omega) (by omega)))) (((hf1.wide (by omega) (by omega) : gFr V V1 15 39).trans (hf2.fr (by omega) (by omega))).wide (by omega) (by omega))
    · refine gX_sipush dX11_group_16 (by decide) ⟨by decide, by decide⟩ ?_
      refine gX_iret dX11_group_19 (Or.inl rfl) ?_
      have ea : aGroup S ba se i = -1001 := by
        unfold aGroup
        rw [if_neg (fun z => by rw [b2i_0 (b := isS S.1.length se) (by assumption)] at z; exact absurd z.2 (by decide))]
      rw [ea] at hQ
      exact hQ V hS gFr.rf
  · refine gX_aloadn dX11_group_0 rfl ?_
    refine gX_iloadn dX11_group_1 rfl ?_
    refine gX_virt (J := iX11_bookAt) (av := [gi ba]) (a := 0) (st := []) dX11_group_2 lkX11_142 kX11_bookAt vX11_bookAt (gFit_m (by decide)) hO rfl rfl (Nat.le_of_ble_eq_true rfl) (Nat.zero_le _) (Nat.zero_le _) rfl ?_
    refine c_bookAtN hG0 hS hr1 ?_
    show gX l E _ 5 [some (ga 0), some (gi ba), some (gi se), some (gi i), none] [ga (-1)] (K, R, V) _ _
    refine gX_ifnull (tgt := 16) dX11_group_5 (by decide) (fun w1 => ?_) (fun w1 => absurd w1 (by omega))
    refine gX_sipush dX11_group_16 (by decide) ⟨by decide, by decide⟩ ?_
    refine gX_iret dX11_group_19 (Or.inl rfl) ?_
    have ea : aGroup S ba se i = -1001 := by
      unfold aGroup
      rw [if_neg (fun z => hr1 z.1)]
    rw [ea] at hQ
    exact hQ V hS gFr.rf
set_option maxRecDepth 4000 in
theorem c_sound (hG : gbK K R D T P S' A W L U) (hS : gbIs V S) (hQ : ∀ V', gbIs V' S → gFr V V' 0 775 → Q (some (gi (aSound S ba se i))) (K, R, V')) : gC l E (d + 6) iX11_sound [ga 0, gi ba, gi se, gi i] (K, R, V) Q := by
  refine gC_of kX11_sound (ls := [some (ga 0), some (gi ba), some (gi se), some (gi i), none]) rfl (Nat.le_of_ble_eq_true rfl) ?_
  have hG0 := hG
  obtain ⟨⟨eD, eT, eP, eS, eA, eW, eL, eU⟩, hO, ⟨r0, r1, r2, r3, r4, r5, r6, r7, r8, r9⟩, k1, k2, hDr, hTo, hRe, hSc, hAl, hWt, hTr, hPr, hBk, hHd⟩ := hG
  have hn0 := hS.1
  have hn1 := hS.2.1
  by_cases hr1 : 0 ≤ ba ∧ ba < S.1.length
  · obtain ⟨B, eB⟩ : ∃ B : Int, B = 39 + 70 * ba := ⟨_, rfl⟩
    have hB : bkK K R B := by rw [eB]; exact (hBk ba (by omega) (by omega)).2
    obtain ⟨q1, eq1⟩ : ∃ q1, q1 = gbq S ba := ⟨_, rfl⟩
    obtain ⟨hb1, hm1⟩ := hS.bk hr1.1 hr1.2 eB
    rw [← eq1] at hb1 hm1
    have ex1 : gbX S ba = q1.1 := by unfold gbX; rw [eq1]
    have hl40 := hb1.1.2.1
    have hx40 : (gbX S ba).length ≤ 40 := by rw [ex1]; exact hl40
    refine gX_aloadn dX11_sound_0 rfl ?_
    refine gX_iloadn dX11_sound_1 rfl ?_
    refine gX_virt (J := iX11_bookAt) (av := [gi ba]) (a := 0) (st := []) dX11_sound_2 lkX11_142 kX11_bookAt vX11_bookAt (gFit_m (by decide)) hO rfl rfl (Nat.le_of_ble_eq_true rfl) (Nat.zero_le _) (Nat.zero_le _) rfl ?_
    refine c_bookAt hG0 hS hr1 eB ?_
    show gX l E _ 5 [some (ga 0), some (gi ba), some (gi se), some (gi i), none] [ga B] (K, R, V) _ _
    refine gX_ifnull (tgt := 16) dX11_sound_5 (by decide) (fun w1 => absurd (kd_pos hB.1) (by omega)) (fun w1 => ?_)
    refine gX_aloadn dX11_sound_8 rfl ?_
    refine gX_iloadn dX11_sound_9 rfl ?_
    refine gX_virt (J := iX11_isSetOfBooks) (av := [gi se]) (a := 0) (st := []) dX11_sound_10 lkX11_252 kX11_isSetOfBooks vX11_isSetOfBooks (gFit_m (by decide)) hO rfl rfl (Nat.le_of_ble_eq_true rfl) (Nat.zero_le _) (Nat.zero_le _) rfl ?_
    refine c_isSet hG0 hS ?_
    show gX l E _ 13 [some (ga 0), some (gi ba), some (gi se), some (gi i), none] [gi (b2i (isS S.1.length se))] (K, R, V) _ _
    refine gX_ifne (tgt := 20) dX11_sound_13 (by decide) (fun w2 => ?_) (fun w2 => ?_)
    · refine gX_aloadn dX11_sound_20 rfl ?_
      refine gX_iloadn dX11_sound_21 rfl ?_
      refine gX_iloadn dX11_sound_22 rfl ?_
      refine gX_virt (J := iX11_hearWitnesses) (av := [gi ba, gi se]) (a := 0) (st := []) dX11_sound_23 lkX11_255 kX11_hearWitnesses vX11_hearWitnesses (gFit_m (by decide)) hO rfl rfl (Nat.le_of_ble_eq_true rfl) (Nat.zero_le _) (Nat.zero_le _) rfl ?_
      refine c_hearW hG0 hS hr1 (fun V1 hw1 hf1 => ?_)
      show gX l E _ 26 [some (ga 0), some (gi ba), some (gi se), some (gi i), none] [] (K, R, V1) _ _
      refine gX_aloadn dX11_sound_26 rfl ?_
      refine gX_gR 7 dX11_sound_27 fdX11_57 rfl rfl hO r7 ?_
      refine gX_virt (J := iX10_findGroups) (av := []) (a := W) (st := []) dX11_sound_30 lkX11_269 kX10_findGroups vX10_findGroups (gFit_m (by decide)) hWt.1 rfl rfl (Nat.le_of_ble_eq_true rfl) (Nat.zero_le _) (Nat.zero_le _) rfl ?_
      refine c_findGroups hWt hw1 ⟨by omega, by omega⟩ ⟨by omega, by omega⟩ (fun V2 hw2 hx2 hf2 => ?_)
      show gX l E _ 33 [some (ga 0), some (gi ba), some (gi se), some (gi i), none] [ga (W + 3)] (K, R, V2) _ _
      refine gX_pop dX11_sound_33 rfl ?_
      refine gX_aloadn dX11_sound_34 rfl ?_
      refine gX_gR 7 dX11_sound_35 fdX11_57 rfl rfl hO r7 ?_
      refine gX_virt (J := iX10_soundGroups) (av := []) (a := W) (st := []) dX11_sound_38 lkX11_275 kX10_soundGroups vX10_soundGroups (gFit_m (by decide)) hWt.1 rfl rfl (Nat.le_of_ble_eq_true rfl) (Nat.zero_le _) (Nat.zero_le _) rfl ?_
      refine c_soundGroups (gr := grpL S ba se) hWt hx2 (fun V3 hx3 hf3 => ?_)
      show gX l E _ 41 [some (ga 0), some (gi ba), some (gi se), some (gi i), none] [ga (W + 5)] (K, R, V3) _ _
      refine gX_astore dX11_sound_41 (show (4 : Nat) < 5 from by decide) (ls2 := [some (ga 0), some (gi ba), some (gi se), some (gi i), some (ga (W + 5))]) rfl ?_
      refine gX_iloadn dX11_sound_43 rfl ?_
      refine gX_iconst dX11_sound_44 ⟨by decide, by decide⟩ ?_
      refine gX_icmpne (tgt := 56) dX11_sound_45 (by decide) (fun w3 => ?_) (fun w3 => ?_)
      · refine gX_aload dX11_sound_56 rfl ?_
        refine gX_iloadn dX11_sound_58 rfl ?_
        refine gX_virt (J := iX6_at) (av := [gi i]) (a := (W + 5)) (st := []) dX11_sound_59 lkX11_132 kX6_at vX6_at (gFit_m (by decide)) hWt.2.2.2.2.2.2.1 rfl rfl (Nat.le_of_ble_eq_true rfl) (Nat.zero_le _) (Nat.zero_le _) rfl ?_
        refine q_Row_at hWt.2.2.2.2.2.2 hx3 ?_
        show gX l E _ 62 [some (ga 0), some (gi ba), some (gi se), some (gi i), some (ga (W + 5))] [gi (lat (sdF (grpL S ba se) (grpL S ba se).length 0 []) i)] (K, R, V3) _ _
        refine gX_iret dX11_sound_62 (Or.inl rfl) ?_
        have ea : aSound S ba se i = lat (sdF (grpL S ba se) (grpL S ba se).length 0 []) i := by
          unfold aSound
          rw [if_pos ⟨hr1, b2i_1 (by assumption)⟩]
          unfold lni
          rw [if_neg (by omega)]
        rw [ea] at hQ
        exact hQ V3 (hS.look (((hf1.wide (by omega) (by omega) : gFr V V1 15 39).trans (hf2.fr (by omega) (by omega))).trans (hf3.fr (by omega) (by omega)))) ((((hf1.wide (by omega) (by omega) : gFr V V1 15 39).trans (hf2.fr (by omega) (by omega))).trans (hf3.fr (by omega) (by omega))).wide (by omega) (by omega))
      · refine gX_aload dX11_sound_48 rfl ?_
        refine gX_virt (J := iX6_length) (av := []) (a := (W + 5)) (st := []) dX11_sound_50 lkX11_88 kX6_length vX6_length (gFit_m (by decide)) hWt.2.2.2.2.2.2.1 rfl rfl (Nat.le_of_ble_eq_true rfl) (Nat.zero_le _) (Nat.zero_le _) rfl ?_
        refine q_Row_length hWt.2.2.2.2.2.2 hx3 ?_
        show gX l E _ 53 [some (ga 0), some (gi ba), some (gi se), some (gi i), some (ga (W + 5))] [gi ((sdF (grpL S ba se) (grpL S ba se).length 0 []).length)] (K, R, V3) _ _
        refine gX_goto (tgt := 62) dX11_sound_53 (by decide) ?_
        refine gX_iret dX11_sound_62 (Or.inl rfl) ?_
        have ea : aSound S ba se i = (sdF (grpL S ba se) (grpL S ba se).length 0 []).length := by
          unfold aSound
          rw [if_pos ⟨hr1, b2i_1 (by assumption)⟩]
          unfold lni
          rw [if_pos (by omega)]
        rw [ea] at hQ
        exact hQ V3 (hS.look (((hf1.wide (by omega) (by omega) : gFr V V1 15 39).trans (hf2.fr (by omega) (by omega))).trans (hf3.fr (by omega) (by omega)))) ((((hf1.wide (by omega) (by omega) : gFr V V1 15 39).trans (hf2.fr (by omega) (by omega))).trans (hf3.fr (by omega) (by omega))).wide (by omega) (by omega))
    · refine gX_sipush dX11_sound_16 (by decide) ⟨by decide, by decide⟩ ?_
      refine gX_iret dX11_sound_19 (Or.inl rfl) ?_
      have ea : aSound S ba se i = -1001 := by
        unfold aSound
        rw [if_neg (fun z => by rw [b2i_0 (b := isS S.1.length se) (by assumption)] at z; exact absurd z.2 (by decide))]
      rw [ea] at hQ
      exact hQ V hS gFr.rf
  · refine gX_aloadn dX11_sound_0 rfl ?_
    refine gX_iloadn dX11_sound_1 rfl ?_
    refine gX_virt (J := iX11_bookAt) (av := [gi ba]) (a := 0) (st := []) dX11_sound_2 lkX11_142 kX11_bookAt vX11_bookAt (gFit_m (by decide)) hO rfl rfl (Nat.le_of_ble_eq_true rfl) (Nat.zero_le _) (Nat.zero_le _) rfl ?_
    refine c_bookAtN hG0 hS hr1 ?_
    show gX l E _ 5 [some (ga 0), some (gi ba), some (gi se), some (gi i), none] [ga (-1)] (K, R, V) _ _
    refine gX_ifnull (tgt := 16) dX11_sound_5 (by decide) (fun w1 => ?_) (fun w1 => absurd w1 (by omega))
    refine gX_sipush dX11_sound_16 (by decide) ⟨by decide, by decide⟩ ?_
    refine gX_iret dX11_sound_19 (Or.inl rfl) ?_
    have ea : aSound S ba se i = -1001 := by
      unfold aSound
      rw [if_neg (fun z => hr1 z.1)]
    rw [ea] at hQ
    exact hQ V hS gFr.rf
set_option maxRecDepth 4000 in
theorem c_clash (hG : gbK K R D T P S' A W L U) (hS : gbIs V S) (hQ : ∀ V', gbIs V' S → gFr V V' 0 775 → Q (some (gi (aClash S ba se))) (K, R, V')) : gC l E (d + 6) iX11_clash [ga 0, gi ba, gi se] (K, R, V) Q := by
  refine gC_of kX11_clash (ls := [some (ga 0), some (gi ba), some (gi se)]) rfl (Nat.le_of_ble_eq_true rfl) ?_
  have hG0 := hG
  obtain ⟨⟨eD, eT, eP, eS, eA, eW, eL, eU⟩, hO, ⟨r0, r1, r2, r3, r4, r5, r6, r7, r8, r9⟩, k1, k2, hDr, hTo, hRe, hSc, hAl, hWt, hTr, hPr, hBk, hHd⟩ := hG
  have hn0 := hS.1
  have hn1 := hS.2.1
  by_cases hr1 : 0 ≤ ba ∧ ba < S.1.length
  · obtain ⟨B, eB⟩ : ∃ B : Int, B = 39 + 70 * ba := ⟨_, rfl⟩
    have hB : bkK K R B := by rw [eB]; exact (hBk ba (by omega) (by omega)).2
    obtain ⟨q1, eq1⟩ : ∃ q1, q1 = gbq S ba := ⟨_, rfl⟩
    obtain ⟨hb1, hm1⟩ := hS.bk hr1.1 hr1.2 eB
    rw [← eq1] at hb1 hm1
    have ex1 : gbX S ba = q1.1 := by unfold gbX; rw [eq1]
    have hl40 := hb1.1.2.1
    have hx40 : (gbX S ba).length ≤ 40 := by rw [ex1]; exact hl40
    refine gX_aloadn dX11_clash_0 rfl ?_
    refine gX_iloadn dX11_clash_1 rfl ?_
    refine gX_virt (J := iX11_bookAt) (av := [gi ba]) (a := 0) (st := []) dX11_clash_2 lkX11_142 kX11_bookAt vX11_bookAt (gFit_m (by decide)) hO rfl rfl (Nat.le_of_ble_eq_true rfl) (Nat.zero_le _) (Nat.zero_le _) rfl ?_
    refine c_bookAt hG0 hS hr1 eB ?_
    show gX l E _ 5 [some (ga 0), some (gi ba), some (gi se)] [ga B] (K, R, V) _ _
    refine gX_ifnull (tgt := 16) dX11_clash_5 (by decide) (fun w1 => absurd (kd_pos hB.1) (by omega)) (fun w1 => ?_)
    refine gX_aloadn dX11_clash_8 rfl ?_
    refine gX_iloadn dX11_clash_9 rfl ?_
    refine gX_virt (J := iX11_isSetOfBooks) (av := [gi se]) (a := 0) (st := []) dX11_clash_10 lkX11_252 kX11_isSetOfBooks vX11_isSetOfBooks (gFit_m (by decide)) hO rfl rfl (Nat.le_of_ble_eq_true rfl) (Nat.zero_le _) (Nat.zero_le _) rfl ?_
    refine c_isSet hG0 hS ?_
    show gX l E _ 13 [some (ga 0), some (gi ba), some (gi se)] [gi (b2i (isS S.1.length se))] (K, R, V) _ _
    refine gX_ifne (tgt := 20) dX11_clash_13 (by decide) (fun w2 => ?_) (fun w2 => ?_)
    · refine gX_aloadn dX11_clash_20 rfl ?_
      refine gX_iloadn dX11_clash_21 rfl ?_
      refine gX_iloadn dX11_clash_22 rfl ?_
      refine gX_virt (J := iX11_hearWitnesses) (av := [gi ba, gi se]) (a := 0) (st := []) dX11_clash_23 lkX11_255 kX11_hearWitnesses vX11_hearWitnesses (gFit_m (by decide)) hO rfl rfl (Nat.le_of_ble_eq_true rfl) (Nat.zero_le _) (Nat.zero_le _) rfl ?_
      refine c_hearW hG0 hS hr1 (fun V1 hw1 hf1 => ?_)
      show gX l E _ 26 [some (ga 0), some (gi ba), some (gi se)] [] (K, R, V1) _ _
      refine gX_aloadn dX11_clash_26 rfl ?_
      refine gX_gR 7 dX11_clash_27 fdX11_57 rfl rfl hO r7 ?_
      refine gX_virt (J := iX10_findGroups) (av := []) (a := W) (st := []) dX11_clash_30 lkX11_269 kX10_findGroups vX10_findGroups (gFit_m (by decide)) hWt.1 rfl rfl (Nat.le_of_ble_eq_true rfl) (Nat.zero_le _) (Nat.zero_le _) rfl ?_
      refine c_findGroups hWt hw1 ⟨by omega, by omega⟩ ⟨by omega, by omega⟩ (fun V2 hw2 hx2 hf2 => ?_)
      show gX l E _ 33 [some (ga 0), some (gi ba), some (gi se)] [ga (W + 3)] (K, R, V2) _ _
      refine gX_pop dX11_clash_33 rfl ?_
      refine gX_aloadn dX11_clash_34 rfl ?_
      refine gX_gR 7 dX11_clash_35 fdX11_57 rfl rfl hO r7 ?_
      refine gX_virt (J := iX10_clashingPairs) (av := []) (a := W) (st := []) dX11_clash_38 lkX11_272 kX10_clashingPairs vX10_clashingPairs (gFit_m (by decide)) hWt.1 rfl rfl (Nat.le_of_ble_eq_true rfl) (Nat.zero_le _) (Nat.zero_le _) rfl ?_
      refine c_clashing (gr := grpL S ba se) hWt hx2 ?_
      show gX l E _ 41 [some (ga 0), some (gi ba), some (gi se)] [gi (cpF (grpL S ba se) (grpL S ba se).length 0 0)] (K, R, V2) _ _
      refine gX_iret dX11_clash_41 (Or.inl rfl) ?_
      have ea : aClash S ba se = cpF (grpL S ba se) (grpL S ba se).length 0 0 := by
        unfold aClash
        rw [if_pos ⟨hr1, b2i_1 (by assumption)⟩]
      rw [ea] at hQ
      exact hQ V2 (hS.look ((hf1.wide (by omega) (by omega) : gFr V V1 15 39).trans (hf2.fr (by omega) (by omega)))) (((hf1.wide (by omega) (by omega) : gFr V V1 15 39).trans (hf2.fr (by omega) (by omega))).wide (by omega) (by omega))
    · refine gX_sipush dX11_clash_16 (by decide) ⟨by decide, by decide⟩ ?_
      refine gX_iret dX11_clash_19 (Or.inl rfl) ?_
      have ea : aClash S ba se = -1001 := by
        unfold aClash
        rw [if_neg (fun z => by rw [b2i_0 (b := isS S.1.length se) (by assumption)] at z; exact absurd z.2 (by decide))]
      rw [ea] at hQ
      exact hQ V hS gFr.rf
  · refine gX_aloadn dX11_clash_0 rfl ?_
    refine gX_iloadn dX11_clash_1 rfl ?_
    refine gX_virt (J := iX11_bookAt) (av := [gi ba]) (a := 0) (st := []) dX11_clash_2 lkX11_142 kX11_bookAt vX11_bookAt (gFit_m (by decide)) hO rfl rfl (Nat.le_of_ble_eq_true rfl) (Nat.zero_le _) (Nat.zero_le _) rfl ?_
    refine c_bookAtN hG0 hS hr1 ?_
    show gX l E _ 5 [some (ga 0), some (gi ba), some (gi se)] [ga (-1)] (K, R, V) _ _
    refine gX_ifnull (tgt := 16) dX11_clash_5 (by decide) (fun w1 => ?_) (fun w1 => absurd w1 (by omega))
    refine gX_sipush dX11_clash_16 (by decide) ⟨by decide, by decide⟩ ?_
    refine gX_iret dX11_clash_19 (Or.inl rfl) ?_
    have ea : aClash S ba se = -1001 := by
      unfold aClash
      rw [if_neg (fun z => hr1 z.1)]
    rw [ea] at hQ
    exact hQ V hS gFr.rf
def dsB (ds : List Int) : Prop := ds.length = 100 ∧ ∀ x ∈ ds, 0 ≤ x ∧ x ≤ 100
theorem dsB_put {ds : List Int} (h : dsB ds) {i x : Int} (h0 : 0 ≤ x ∧ x ≤ 100) : dsB (lput ds i x) := by
  unfold lput
  split
  · exact h
  · refine ⟨by rw [List.length_set]; exact h.1, fun y hy => ?_⟩
    rcases List.mem_or_eq_of_mem_set hy with z | z
    · exact h.2 y z
    · rw [z]; exact h0
set_option maxRecDepth 4000 in
theorem c_growTree (hG : gbK K R D T P S' A W L U) (hS : gbIs V S) (hQ : ∀ V', trIs V' L (gtD S se) (gtT S ro se).1 (gtT S ro se).2 → gFr V V' A (L + 5) → Q none (K, R, V')) : gC l E (d + 5) iX11_growTree [ga 0, gi ro, gi se] (K, R, V) Q := by
  refine gC_of kX11_growTree (ls := [some (ga 0), some (gi ro), some (gi se), none, none, none, none]) rfl (Nat.le_of_ble_eq_true rfl) ?_
  have hG0 := hG
  obtain ⟨⟨eD, eT, eP, eS, eA, eW, eL, eU⟩, hO, ⟨r0, r1, r2, r3, r4, r5, r6, r7, r8, r9⟩, k1, k2, hDr, hTo, hRe, hSc, hAl, hWt, hTr, hPr, hBk, hHd⟩ := hG
  have hn0 := hS.1
  have hn1 := hS.2.1
  have lp : ∀ (jj : Nat) (a : Int) (ds : List Int) (j4 : Option gV) (j5 : Option gV) (j6 : Option gV) (V1 : Int → Int → Int) (bc bs : Nat), (S.1.length : Int) - a < (jj : Int) → 0 ≤ a → a ≤ S.1.length → dsB ds → trIs V1 L ds (List.replicate 10 (-1)) 0 → gFr V V1 A (L + 5) → (∀ V', trIs V' L (gtF S se (S.1.length - a.toNat) a ds) (grF (gtF S se (S.1.length - a.toNat) a ds) se 10 (gshl 1 ro) ((List.replicate 10 (-1)), 0)).1 (grF (gtF S se (S.1.length - a.toNat) a ds) se 10 (gshl 1 ro) ((List.replicate 10 (-1)), 0)).2 → gFr V V' A (L + 5) → Q none (K, R, V')) → gX l E (gFm E (d + 5) iX11_growTree Q) 9 [some (ga 0), some (gi ro), some (gi se), some (gi a), j4, j5, j6] [] (K, R, V1) bc bs := by
    intro jj
    induction jj with
    | zero =>
      intro a ds j4 j5 j6 V1 bc bs hj q0 q1z hd1 ht1 hf1 hq2
      exfalso; omega
    | succ jj ih =>
      intro a ds j4 j5 j6 V1 bc bs hj q0 q1z hd1 ht1 hf1 hq2
      refine gX_iloadn dX11_growTree_9 rfl ?_
      refine gX_aloadn dX11_growTree_10 rfl ?_
      refine gX_gI 10 dX11_growTree_11 fdX11_77 rfl (Or.inl rfl) hO ?_
      rw [show V1 0 10 = (S.1.length : Int) by rw [hf1 0 (by omega)]; exact hS.1]
      refine gX_icmpge (tgt := 107) dX11_growTree_14 (by decide) (fun m1 => ?_) (fun m1 => ?_)
      · have hda : ∀ i : Int, -1 ≤ lat ds i ∧ lat ds i ≤ 100 := by
          intro i
          rcases lat_cs ds i with e | e
          · omega
          · have := hd1.2 _ e; omega
        have ei : S.1.length - a.toNat = 0 := by omega
        rw [ei] at hq2
        refine gX_aloadn dX11_growTree_107 rfl ?_
        refine gX_gR 8 dX11_growTree_108 fdX11_64 rfl rfl hO r8 ?_
        refine gX_iloadn dX11_growTree_111 rfl ?_
        refine gX_iloadn dX11_growTree_112 rfl ?_
        refine gX_virt (J := iX9_grow) (av := [gi ro, gi se]) (a := L) (st := []) dX11_growTree_113 lkX11_321 kX9_grow vX9_grow (gFit_m (by decide)) hTr.1 rfl rfl (Nat.le_of_ble_eq_true rfl) (Nat.zero_le _) (Nat.zero_le _) rfl ?_
        refine c_grow hTr ht1 rfl hda (fun V6 ht6 hf6 => ?_)
        show gX l E _ 116 [some (ga 0), some (gi ro), some (gi se), some (gi a), j4, j5, j6] [] (K, R, V6) _ _
        refine gX_vret dX11_growTree_116 rfl ?_
        exact hq2 V6 ht6 (hf1.trans (hf6.wide (by omega) (by omega)))
      · refine gX_iconst dX11_growTree_17 ⟨by decide, by decide⟩ ?_
        refine gX_istore dX11_growTree_18 (show (4 : Nat) < 7 from by decide) (ls2 := [some (ga 0), some (gi ro), some (gi se), some (gi a), some (gi 0), j5, j6]) rfl ?_
        have hr1 : 0 ≤ a ∧ a < S.1.length := ⟨by omega, by omega⟩
        obtain ⟨B, eB⟩ : ∃ B : Int, B = 39 + 70 * a := ⟨_, rfl⟩
        have hB : bkK K R B := by rw [eB]; exact (hBk a (by omega) (by omega)).2
        obtain ⟨q1, eq1⟩ : ∃ q1, q1 = gbq S a := ⟨_, rfl⟩
        obtain ⟨hb1, hm1⟩ := hS.bk hr1.1 hr1.2 eB
        rw [← eq1] at hb1 hm1
        have ex1 : gbX S a = q1.1 := by unfold gbX; rw [eq1]
        have lq : ∀ (jj : Nat) (b : Int) (ds : List Int) (j5 : Option gV) (j6 : Option gV) (V2 : Int → Int → Int) (bc bs : Nat), a - b < (jj : Int) → 0 ≤ b → b ≤ a → dsB ds → trIs V2 L ds (List.replicate 10 (-1)) 0 → gFr V V2 A (L + 5) → (∀ V' ds' b2 j5 j6 bc bs, ds' = gtI S se a (a - b).toNat b ds → dsB ds' → trIs V' L ds' (List.replicate 10 (-1)) 0 → gFr V V' A (L + 5) → gX l E (gFm E (d + 5) iX11_growTree Q) 101 [some (ga 0), some (gi ro), some (gi se), some (gi a), b2, j5, j6] [] (K, R, V') bc bs) → gX l E (gFm E (d + 5) iX11_growTree Q) 20 [some (ga 0), some (gi ro), some (gi se), some (gi a), some (gi b), j5, j6] [] (K, R, V2) bc bs := by
          intro jj
          induction jj with
          | zero =>
            intro b ds j5 j6 V2 bc bs hj k0 k1 hd2 ht2 hf2 hk2
            exfalso; omega
          | succ jj ih =>
            intro b ds j5 j6 V2 bc bs hj k0 k1 hd2 ht2 hf2 hk2
            refine gX_iload dX11_growTree_20 rfl ?_
            refine gX_iloadn dX11_growTree_22 rfl ?_
            refine gX_icmpge (tgt := 101) dX11_growTree_23 (by decide) (fun w1 => ?_) (fun w1 => ?_)
            · have ei : (a - b).toNat = 0 := by omega
              rw [ei] at hk2
              exact hk2 V2 ds _ _ _ _ _ rfl hd2 ht2 hf2
            · have hr2 : 0 ≤ b ∧ b < S.1.length := ⟨by omega, by omega⟩
              obtain ⟨C, eC⟩ : ∃ C : Int, C = 39 + 70 * b := ⟨_, rfl⟩
              have hC : bkK K R C := by rw [eC]; exact (hBk b (by omega) (by omega)).2
              obtain ⟨q2, eq2⟩ : ∃ q2, q2 = gbq S b := ⟨_, rfl⟩
              obtain ⟨hb2, hm2⟩ := hS.bk hr2.1 hr2.2 eC
              rw [← eq2] at hb2 hm2
              have ex2 : gbX S b = q2.1 := by unfold gbX; rw [eq2]
              have hed : 0 ≤ ed q1.1 q2.1 ∧ ed q1.1 q2.1 ≤ 100 := ⟨ed_nn _ _, by have := ed_le q1.1 q2.1; have := hb1.1.2.1; have := hb2.1.2.1; omega⟩
              refine gX_aloadn dX11_growTree_26 rfl ?_
              refine gX_iloadn dX11_growTree_27 rfl ?_
              refine gX_virt (J := iX11_bookAt) (av := [gi a]) (a := 0) (st := []) dX11_growTree_28 lkX11_142 kX11_bookAt vX11_bookAt (gFit_m (by decide)) hO rfl rfl (Nat.le_of_ble_eq_true rfl) (Nat.zero_le _) (Nat.zero_le _) rfl ?_
              refine c_bookAt hG0 (hS.look (hf2.wide (by omega) (by omega))) hr1 eB ?_
              show gX l E _ 31 [some (ga 0), some (gi ro), some (gi se), some (gi a), some (gi b), j5, j6] [ga B] (K, R, V2) _ _
              refine gX_astore dX11_growTree_31 (show (5 : Nat) < 7 from by decide) (ls2 := [some (ga 0), some (gi ro), some (gi se), some (gi a), some (gi b), some (ga B), j6]) rfl ?_
              refine gX_aloadn dX11_growTree_33 rfl ?_
              refine gX_iload dX11_growTree_34 rfl ?_
              refine gX_virt (J := iX11_bookAt) (av := [gi b]) (a := 0) (st := []) dX11_growTree_36 lkX11_142 kX11_bookAt vX11_bookAt (gFit_m (by decide)) hO rfl rfl (Nat.le_of_ble_eq_true rfl) (Nat.zero_le _) (Nat.zero_le _) rfl ?_
              refine c_bookAt hG0 (hS.look (hf2.wide (by omega) (by omega))) hr2 eC ?_
              show gX l E _ 39 [some (ga 0), some (gi ro), some (gi se), some (gi a), some (gi b), some (ga B), j6] [ga C] (K, R, V2) _ _
              refine gX_astore dX11_growTree_39 (show (6 : Nat) < 7 from by decide) (ls2 := [some (ga 0), some (gi ro), some (gi se), some (gi a), some (gi b), some (ga B), some (ga C)]) rfl ?_
              refine gX_aload dX11_growTree_41 rfl ?_
              refine gX_ifnull (tgt := 95) dX11_growTree_43 (by decide) (fun w2 => absurd (kd_pos hB.1) (by omega)) (fun w2 => ?_)
              refine gX_aload dX11_growTree_46 rfl ?_
              refine gX_ifnull (tgt := 95) dX11_growTree_48 (by decide) (fun w3 => absurd (kd_pos hC.1) (by omega)) (fun w3 => ?_)
              refine gX_iloadn dX11_growTree_51 rfl ?_
              refine gX_iloadn dX11_growTree_52 rfl ?_
              refine gX_stat (J := iX11_isIn) (av := [gi se, gi a]) (st := []) dX11_growTree_53 lkX11_278 kX11_isIn sX11_isIn (gFit_m (by decide)) rfl (Nat.le_of_ble_eq_true rfl) (Nat.zero_le _) (Nat.zero_le _) rfl ?_
              refine c_isIn ?_
              show gX l E _ 56 [some (ga 0), some (gi ro), some (gi se), some (gi a), some (gi b), some (ga B), some (ga C)] [gi (b2i (inB se a))] (K, R, V2) _ _
              refine gX_ifeq (tgt := 95) dX11_growTree_56 (by decide) (fun w4 => ?_) (fun w4 => ?_)
              · refine gX_iinc dX11_growTree_95 rfl (show (4 : Nat) < 7 from by decide) ⟨by omega, by omega⟩ (ls2 := [some (ga 0), some (gi ro), some (gi se), some (gi a), some (gi (b + 1)), some (ga B), some (ga C)]) rfl ?_
                refine gX_goto (tgt := 20) dX11_growTree_98 (by decide) ?_
                have ek : (a - b).toNat = (a - (b + 1)).toNat + 1 := by omega
                have e1 : gtI S se a (a - b).toNat b ds = gtI S se a (a - (b + 1)).toNat (b + 1) ds := by
                  rw [ek]
                  show gtI S se a _ _ (if _ then _ else _) = _
                  rw [if_neg (by rintro ⟨z1, z2⟩; first | (rw [b2i_0 (b := inB se a) (by assumption)] at z1; exact absurd z1 (by decide)) | (rw [b2i_0 (b := inB se b) (by assumption)] at z2; exact absurd z2 (by decide)))]
                rw [e1] at hk2
                exact ih (b + 1) ds _ _ V2 _ _ (by omega) (by omega) (by omega) hd2 ht2 hf2 hk2
              · refine gX_iloadn dX11_growTree_59 rfl ?_
                refine gX_iload dX11_growTree_60 rfl ?_
                refine gX_stat (J := iX11_isIn) (av := [gi se, gi b]) (st := []) dX11_growTree_62 lkX11_278 kX11_isIn sX11_isIn (gFit_m (by decide)) rfl (Nat.le_of_ble_eq_true rfl) (Nat.zero_le _) (Nat.zero_le _) rfl ?_
                refine c_isIn ?_
                show gX l E _ 65 [some (ga 0), some (gi ro), some (gi se), some (gi a), some (gi b), some (ga B), some (ga C)] [gi (b2i (inB se b))] (K, R, V2) _ _
                refine gX_ifeq (tgt := 95) dX11_growTree_65 (by decide) (fun w5 => ?_) (fun w5 => ?_)
                · refine gX_iinc dX11_growTree_95 rfl (show (4 : Nat) < 7 from by decide) ⟨by omega, by omega⟩ (ls2 := [some (ga 0), some (gi ro), some (gi se), some (gi a), some (gi (b + 1)), some (ga B), some (ga C)]) rfl ?_
                  refine gX_goto (tgt := 20) dX11_growTree_98 (by decide) ?_
                  have ek : (a - b).toNat = (a - (b + 1)).toNat + 1 := by omega
                  have e1 : gtI S se a (a - b).toNat b ds = gtI S se a (a - (b + 1)).toNat (b + 1) ds := by
                    rw [ek]
                    show gtI S se a _ _ (if _ then _ else _) = _
                    rw [if_neg (by rintro ⟨z1, z2⟩; first | (rw [b2i_0 (b := inB se a) (by assumption)] at z1; exact absurd z1 (by decide)) | (rw [b2i_0 (b := inB se b) (by assumption)] at z2; exact absurd z2 (by decide)))]
                  rw [e1] at hk2
                  exact ih (b + 1) ds _ _ V2 _ _ (by omega) (by omega) (by omega) hd2 ht2 hf2 hk2
                · refine gX_aloadn dX11_growTree_68 rfl ?_
                  refine gX_gR 8 dX11_growTree_69 fdX11_64 rfl rfl hO r8 ?_
                  refine gX_iloadn dX11_growTree_72 rfl ?_
                  refine gX_iload dX11_growTree_73 rfl ?_
                  refine gX_aloadn dX11_growTree_75 rfl ?_
                  refine gX_gR 6 dX11_growTree_76 fdX11_50 rfl rfl hO r6 ?_
                  refine gX_aload dX11_growTree_79 rfl ?_
                  refine gX_gR 0 dX11_growTree_81 fdX11_164 rfl rfl hB.1 hB.2.1 ?_
                  refine gX_aload dX11_growTree_84 rfl ?_
                  refine gX_gR 0 dX11_growTree_86 fdX11_164 rfl rfl hC.1 hC.2.1 ?_
                  refine gX_virt (J := iX0_leastCost) (av := [ga (B + 1), ga (C + 1)]) (a := A) (st := [gi b, gi a, ga L]) dX11_growTree_89 lkX11_233 kX0_leastCost vX0_leastCost (gFit_m (by decide)) hAl.1 rfl rfl (Nat.le_of_ble_eq_true rfl) (Nat.zero_le _) (Nat.zero_le _) rfl ?_
                  refine c_leastCost hAl hB.2.2.2.2.2.2.1 hC.2.2.2.2.2.2.1 (hb1.1.fr hf2 (by omega)) (hb2.1.fr hf2 (by omega)) (by omega) (by omega) (fun V3 hf3 => ?_)
                  show gX l E _ 92 [some (ga 0), some (gi ro), some (gi se), some (gi a), some (gi b), some (ga B), some (ga C)] [gi (ed q1.1 q2.1), gi b, gi a, ga L] (K, R, V3) _ _
                  refine gX_virt (J := iX9_tellDistance) (av := [gi a, gi b, gi (ed q1.1 q2.1)]) (a := L) (st := []) dX11_growTree_92 lkX11_318 kX9_tellDistance vX9_tellDistance (gFit_m (by decide)) hTr.1 rfl rfl (Nat.le_of_ble_eq_true rfl) (Nat.zero_le _) (Nat.zero_le _) rfl ?_
                  refine c_tellDistance (su := 0) hTr ⟨ht2.1.fr hf3 (by omega), ht2.2.1.fr hf3 (by omega), by rw [hf3 L (by omega)]; exact ht2.2.2⟩ ⟨by omega, by omega, by omega, by omega⟩ (fun V4 ht4 hf4 => ?_)
                  show gX l E _ 95 [some (ga 0), some (gi ro), some (gi se), some (gi a), some (gi b), some (ga B), some (ga C)] [] (K, R, V4) _ _
                  refine gX_iinc dX11_growTree_95 rfl (show (4 : Nat) < 7 from by decide) ⟨by omega, by omega⟩ (ls2 := [some (ga 0), some (gi ro), some (gi se), some (gi a), some (gi (b + 1)), some (ga B), some (ga C)]) rfl ?_
                  refine gX_goto (tgt := 20) dX11_growTree_98 (by decide) ?_
                  have ek : (a - b).toNat = (a - (b + 1)).toNat + 1 := by omega
                  have e1 : gtI S se a (a - b).toNat b ds = gtI S se a (a - (b + 1)).toNat (b + 1) (lput (lput ds (a * 10 + b) (ed (gbX S a) (gbX S b))) (b * 10 + a) (ed (gbX S a) (gbX S b))) := by
                    rw [ek]
                    show gtI S se a _ _ (if _ then _ else _) = _
                    rw [if_pos ⟨b2i_1 (by assumption), b2i_1 (by assumption)⟩]
                  rw [e1] at hk2
                  rw [ex1, ex2] at hk2
                  refine ih (b + 1) _ _ _ V4 _ _ (by omega) (by omega) (by omega) (dsB_put (dsB_put hd2 hed) hed) ht4 (hf2.trans ((hf3.wide (by omega) (by omega)).trans (hf4.wide (by omega) (by omega)))) hk2
        refine lq (a.toNat + 1) 0 ds _ _ V1 _ _ (by omega) (by omega) (by omega) hd1 ht1 hf1 (fun V5 ds5 b2 j5 j6 bc bs e5 hd5 ht5 hf5 => ?_)
        refine gX_iinc dX11_growTree_101 rfl (show (3 : Nat) < 7 from by decide) ⟨by omega, by omega⟩ (ls2 := [some (ga 0), some (gi ro), some (gi se), some (gi (a + 1)), b2, j5, j6]) rfl ?_
        refine gX_goto (tgt := 9) dX11_growTree_104 (by decide) ?_
        have ek : S.1.length - a.toNat = (S.1.length - (a + 1).toNat) + 1 := by omega
        have e1 : gtF S se (S.1.length - a.toNat) a ds = gtF S se (S.1.length - (a + 1).toNat) (a + 1) ds5 := by
          rw [ek, e5, show (a - 0).toNat = a.toNat by omega]
          rfl
        rw [e1] at hq2
        exact ih (a + 1) ds5 _ _ _ V5 _ _ (by omega) (by omega) (by omega) hd5 ht5 hf5 hq2
  refine gX_aloadn dX11_growTree_0 rfl ?_
  refine gX_gR 8 dX11_growTree_1 fdX11_64 rfl rfl hO r8 ?_
  refine gX_virt (J := iX9_begin) (av := []) (a := L) (st := []) dX11_growTree_4 lkX11_316 kX9_begin vX9_begin (gFit_m (by decide)) hTr.1 rfl rfl (Nat.le_of_ble_eq_true rfl) (Nat.zero_le _) (Nat.zero_le _) rfl ?_
  refine c_trBegin hTr (fun V1 ht1 hf1 => ?_)
  show gX l E _ 7 [some (ga 0), some (gi ro), some (gi se), none, none, none, none] [] (K, R, V1) _ _
  refine gX_iconst dX11_growTree_7 ⟨by decide, by decide⟩ ?_
  refine gX_istoren dX11_growTree_8 (show (3 : Nat) < 7 from by decide) (ls2 := [some (ga 0), some (gi ro), some (gi se), some (gi 0), none, none, none]) rfl ?_
  exact lp 11 0 (List.replicate 100 0) none none none V1 _ _ (by omega) (by omega) (by omega) ⟨rfl, fun x hx => by rw [List.eq_of_mem_replicate hx]; omega⟩ ht1 (hf1.wide (by omega) (by omega)) hQ
set_option maxRecDepth 4000 in
theorem c_astray {ds pa : List Int} {su : Int} (hG : gbK K R D T P S' A W L U) (hS : gbIs V S) (ht : trIs V L ds pa su) (hQ : Q (some (gi (asF S pa ro se S.1.length 0 0))) (K, R, V)) : gC l E (d + 2) iX11_astray [ga 0, gi ro, gi se] (K, R, V) Q := by
  refine gC_of kX11_astray (ls := [some (ga 0), some (gi ro), some (gi se), none, none, none]) rfl (Nat.le_of_ble_eq_true rfl) ?_
  have hG0 := hG
  obtain ⟨⟨eD, eT, eP, eS, eA, eW, eL, eU⟩, hO, ⟨r0, r1, r2, r3, r4, r5, r6, r7, r8, r9⟩, k1, k2, hDr, hTo, hRe, hSc, hAl, hWt, hTr, hPr, hBk, hHd⟩ := hG
  have hn0 := hS.1
  have hn1 := hS.2.1
  have lp : ∀ (jj : Nat) (b : Int) (n : Int) (j5 : Option gV) (bc bs : Nat), (S.1.length : Int) - b < (jj : Int) → 0 ≤ b → b ≤ S.1.length → 0 ≤ n → n ≤ b → (Q (some (gi (asF S pa ro se (S.1.length - b.toNat) b n))) (K, R, V)) → gX l E (gFm E (d + 2) iX11_astray Q) 5 [some (ga 0), some (gi ro), some (gi se), some (gi n), some (gi b), j5] [] (K, R, V) bc bs := by
    intro jj
    induction jj with
    | zero =>
      intro b n j5 bc bs hj q0 q1z q2z q3z hq2
      exfalso; omega
    | succ jj ih =>
      intro b n j5 bc bs hj q0 q1z q2z q3z hq2
      refine gX_iload dX11_astray_5 rfl ?_
      refine gX_aloadn dX11_astray_7 rfl ?_
      refine gX_gI 10 dX11_astray_8 fdX11_77 rfl (Or.inl rfl) hO ?_
      rw [hn0]
      refine gX_icmpge (tgt := 71) dX11_astray_11 (by decide) (fun w1 => ?_) (fun w1 => ?_)
      · refine gX_iloadn dX11_astray_71 rfl ?_
        refine gX_iret dX11_astray_72 (Or.inl rfl) ?_
        have ei : S.1.length - b.toNat = 0 := by omega
        rw [ei] at hq2
        exact hq2
      · have hr2 : 0 ≤ b ∧ b < S.1.length := ⟨by omega, by omega⟩
        obtain ⟨C, eC⟩ : ∃ C : Int, C = 39 + 70 * b := ⟨_, rfl⟩
        have hC : bkK K R C := by rw [eC]; exact (hBk b (by omega) (by omega)).2
        obtain ⟨q2, eq2⟩ : ∃ q2, q2 = gbq S b := ⟨_, rfl⟩
        obtain ⟨hb2, hm2⟩ := hS.bk hr2.1 hr2.2 eC
        rw [← eq2] at hb2 hm2
        refine gX_aloadn dX11_astray_14 rfl ?_
        refine gX_iload dX11_astray_15 rfl ?_
        refine gX_virt (J := iX11_bookAt) (av := [gi b]) (a := 0) (st := []) dX11_astray_17 lkX11_142 kX11_bookAt vX11_bookAt (gFit_m (by decide)) hO rfl rfl (Nat.le_of_ble_eq_true rfl) (Nat.zero_le _) (Nat.zero_le _) rfl ?_
        refine c_bookAt hG0 hS hr2 eC ?_
        show gX l E _ 20 [some (ga 0), some (gi ro), some (gi se), some (gi n), some (gi b), j5] [ga C] (K, R, V) _ _
        refine gX_astore dX11_astray_20 (show (5 : Nat) < 6 from by decide) (ls2 := [some (ga 0), some (gi ro), some (gi se), some (gi n), some (gi b), some (ga C)]) rfl ?_
        refine gX_aload dX11_astray_22 rfl ?_
        refine gX_ifnull (tgt := 65) dX11_astray_24 (by decide) (fun w2 => absurd (kd_pos hC.1) (by omega)) (fun w2 => ?_)
        refine gX_iload dX11_astray_27 rfl ?_
        refine gX_iloadn dX11_astray_29 rfl ?_
        refine gX_icmpeq (tgt := 65) dX11_astray_30 (by decide) (fun w3 => ?_) (fun w3 => ?_)
        · refine gX_iinc dX11_astray_65 rfl (show (4 : Nat) < 6 from by decide) ⟨by omega, by omega⟩ (ls2 := [some (ga 0), some (gi ro), some (gi se), some (gi n), some (gi (b + 1)), some (ga C)]) rfl ?_
          refine gX_goto (tgt := 5) dX11_astray_68 (by decide) ?_
          have ek : S.1.length - b.toNat = (S.1.length - (b + 1).toNat) + 1 := by omega
          have e1 : asF S pa ro se (S.1.length - b.toNat) b n = asF S pa ro se (S.1.length - (b + 1).toNat) (b + 1) (n) := by
            rw [ek]
            show asF S pa ro se _ _ (if _ then _ else _) = _
            rw [if_neg (by rintro ⟨z1, z2, z3⟩; first | omega | (rw [b2i_0 (b := inB se b) (by assumption)] at z2; exact absurd z2 (by decide)) | (rw [← eq2] at z3; omega))]
          rw [e1] at hq2
          exact ih (b + 1) _ _ _ _ (by omega) (by omega) (by omega) (by omega) (by omega) hq2
        · refine gX_iloadn dX11_astray_33 rfl ?_
          refine gX_iload dX11_astray_34 rfl ?_
          refine gX_stat (J := iX11_isIn) (av := [gi se, gi b]) (st := []) dX11_astray_36 lkX11_278 kX11_isIn sX11_isIn (gFit_m (by decide)) rfl (Nat.le_of_ble_eq_true rfl) (Nat.zero_le _) (Nat.zero_le _) rfl ?_
          refine c_isIn ?_
          show gX l E _ 39 [some (ga 0), some (gi ro), some (gi se), some (gi n), some (gi b), some (ga C)] [gi (b2i (inB se b))] (K, R, V) _ _
          refine gX_ifeq (tgt := 65) dX11_astray_39 (by decide) (fun w4 => ?_) (fun w4 => ?_)
          · refine gX_iinc dX11_astray_65 rfl (show (4 : Nat) < 6 from by decide) ⟨by omega, by omega⟩ (ls2 := [some (ga 0), some (gi ro), some (gi se), some (gi n), some (gi (b + 1)), some (ga C)]) rfl ?_
            refine gX_goto (tgt := 5) dX11_astray_68 (by decide) ?_
            have ek : S.1.length - b.toNat = (S.1.length - (b + 1).toNat) + 1 := by omega
            have e1 : asF S pa ro se (S.1.length - b.toNat) b n = asF S pa ro se (S.1.length - (b + 1).toNat) (b + 1) (n) := by
              rw [ek]
              show asF S pa ro se _ _ (if _ then _ else _) = _
              rw [if_neg (by rintro ⟨z1, z2, z3⟩; first | omega | (rw [b2i_0 (b := inB se b) (by assumption)] at z2; exact absurd z2 (by decide)) | (rw [← eq2] at z3; omega))]
            rw [e1] at hq2
            exact ih (b + 1) _ _ _ _ (by omega) (by omega) (by omega) (by omega) (by omega) hq2
          · refine gX_aloadn dX11_astray_42 rfl ?_
            refine gX_gR 8 dX11_astray_43 fdX11_64 rfl rfl hO r8 ?_
            refine gX_gR 1 dX11_astray_46 fdX11_285 rfl rfl hTr.1 hTr.2.2.1 ?_
            refine gX_iload dX11_astray_49 rfl ?_
            refine gX_virt (J := iX6_at) (av := [gi b]) (a := (L + 3)) (st := []) dX11_astray_51 lkX11_132 kX6_at vX6_at (gFit_m (by decide)) hTr.2.2.2.2.1 rfl rfl (Nat.le_of_ble_eq_true rfl) (Nat.zero_le _) (Nat.zero_le _) rfl ?_
            refine q_Row_at hTr.2.2.2.2 ht.2.1 ?_
            show gX l E _ 54 [some (ga 0), some (gi ro), some (gi se), some (gi n), some (gi b), some (ga C)] [gi (lat pa b)] (K, R, V) _ _
            refine gX_aload dX11_astray_54 rfl ?_
            refine gX_gI 6 dX11_astray_56 fdX11_149 rfl (Or.inl rfl) hC.1 ?_
            rw [hm2.1]
            refine gX_icmpeq (tgt := 65) dX11_astray_59 (by decide) (fun w5 => ?_) (fun w5 => ?_)
            · refine gX_iinc dX11_astray_65 rfl (show (4 : Nat) < 6 from by decide) ⟨by omega, by omega⟩ (ls2 := [some (ga 0), some (gi ro), some (gi se), some (gi n), some (gi (b + 1)), some (ga C)]) rfl ?_
              refine gX_goto (tgt := 5) dX11_astray_68 (by decide) ?_
              have ek : S.1.length - b.toNat = (S.1.length - (b + 1).toNat) + 1 := by omega
              have e1 : asF S pa ro se (S.1.length - b.toNat) b n = asF S pa ro se (S.1.length - (b + 1).toNat) (b + 1) (n) := by
                rw [ek]
                show asF S pa ro se _ _ (if _ then _ else _) = _
                rw [if_neg (by rintro ⟨z1, z2, z3⟩; first | omega | (rw [b2i_0 (b := inB se b) (by assumption)] at z2; exact absurd z2 (by decide)) | (rw [← eq2] at z3; omega))]
              rw [e1] at hq2
              exact ih (b + 1) _ _ _ _ (by omega) (by omega) (by omega) (by omega) (by omega) hq2
            · refine gX_iinc dX11_astray_62 rfl (show (3 : Nat) < 6 from by decide) ⟨by omega, by omega⟩ (ls2 := [some (ga 0), some (gi ro), some (gi se), some (gi (n + 1)), some (gi b), some (ga C)]) rfl ?_
              refine gX_iinc dX11_astray_65 rfl (show (4 : Nat) < 6 from by decide) ⟨by omega, by omega⟩ (ls2 := [some (ga 0), some (gi ro), some (gi se), some (gi (n + 1)), some (gi (b + 1)), some (ga C)]) rfl ?_
              refine gX_goto (tgt := 5) dX11_astray_68 (by decide) ?_
              have ek : S.1.length - b.toNat = (S.1.length - (b + 1).toNat) + 1 := by omega
              have e1 : asF S pa ro se (S.1.length - b.toNat) b n = asF S pa ro se (S.1.length - (b + 1).toNat) (b + 1) (n + 1) := by
                rw [ek]
                show asF S pa ro se _ _ (if _ then _ else _) = _
                rw [if_pos ⟨by omega, b2i_1 (by assumption), by rw [← eq2]; omega⟩]
              rw [e1] at hq2
              exact ih (b + 1) _ _ _ _ (by omega) (by omega) (by omega) (by omega) (by omega) hq2
  refine gX_iconst dX11_astray_0 ⟨by decide, by decide⟩ ?_
  refine gX_istoren dX11_astray_1 (show (3 : Nat) < 6 from by decide) (ls2 := [some (ga 0), some (gi ro), some (gi se), some (gi 0), none, none]) rfl ?_
  refine gX_iconst dX11_astray_2 ⟨by decide, by decide⟩ ?_
  refine gX_istore dX11_astray_3 (show (4 : Nat) < 6 from by decide) (ls2 := [some (ga 0), some (gi ro), some (gi se), some (gi 0), some (gi 0), none]) rfl ?_
  exact lp 11 0 0 none _ _ (by omega) (by omega) (by omega) (by omega) (by omega) hQ
set_option maxRecDepth 4000 in
theorem c_parent (hG : gbK K R D T P S' A W L U) (hS : gbIs V S) (hQ : ∀ V', gbIs V' S → gFr V V' 0 775 → Q (some (gi (aParent S ro se b))) (K, R, V')) : gC l E (d + 6) iX11_parent [ga 0, gi ro, gi se, gi b] (K, R, V) Q := by
  refine gC_of kX11_parent (ls := [some (ga 0), some (gi ro), some (gi se), some (gi b)]) rfl (Nat.le_of_ble_eq_true rfl) ?_
  have hG0 := hG
  obtain ⟨⟨eD, eT, eP, eS, eA, eW, eL, eU⟩, hO, ⟨r0, r1, r2, r3, r4, r5, r6, r7, r8, r9⟩, k1, k2, hDr, hTo, hRe, hSc, hAl, hWt, hTr, hPr, hBk, hHd⟩ := hG
  have hn0 := hS.1
  have hn1 := hS.2.1
  refine gX_aloadn dX11_parent_0 rfl ?_
  refine gX_iloadn dX11_parent_1 rfl ?_
  refine gX_virt (J := iX11_isSetOfBooks) (av := [gi se]) (a := 0) (st := []) dX11_parent_2 lkX11_252 kX11_isSetOfBooks vX11_isSetOfBooks (gFit_m (by decide)) hO rfl rfl (Nat.le_of_ble_eq_true rfl) (Nat.zero_le _) (Nat.zero_le _) rfl ?_
  refine c_isSet hG0 hS ?_
  show gX l E _ 5 [some (ga 0), some (gi ro), some (gi se), some (gi b)] [gi (b2i (isS S.1.length se))] (K, R, V) _ _
  refine gX_ifeq (tgt := 24) dX11_parent_5 (by decide) (fun w1 => ?_) (fun w1 => ?_)
  · refine gX_sipush dX11_parent_24 (by decide) ⟨by decide, by decide⟩ ?_
    refine gX_iret dX11_parent_27 (Or.inl rfl) ?_
    have ea : aParent S ro se b = -1001 := by
      unfold aParent
      rw [if_neg (by rintro ⟨z1, z2, z3⟩; first | (rw [b2i_0 (b := isS S.1.length se) (by assumption)] at z1; exact absurd z1 (by decide)) | (rw [b2i_0 (b := inB se ro) (by assumption)] at z2; exact absurd z2 (by decide)) | (rw [b2i_0 (b := inB se b) (by assumption)] at z3; exact absurd z3 (by decide)))]
    rw [ea] at hQ
    exact hQ V hS gFr.rf
  · refine gX_iloadn dX11_parent_8 rfl ?_
    refine gX_iloadn dX11_parent_9 rfl ?_
    refine gX_stat (J := iX11_isIn) (av := [gi se, gi ro]) (st := []) dX11_parent_10 lkX11_278 kX11_isIn sX11_isIn (gFit_m (by decide)) rfl (Nat.le_of_ble_eq_true rfl) (Nat.zero_le _) (Nat.zero_le _) rfl ?_
    refine c_isIn ?_
    show gX l E _ 13 [some (ga 0), some (gi ro), some (gi se), some (gi b)] [gi (b2i (inB se ro))] (K, R, V) _ _
    refine gX_ifeq (tgt := 24) dX11_parent_13 (by decide) (fun w2 => ?_) (fun w2 => ?_)
    · refine gX_sipush dX11_parent_24 (by decide) ⟨by decide, by decide⟩ ?_
      refine gX_iret dX11_parent_27 (Or.inl rfl) ?_
      have ea : aParent S ro se b = -1001 := by
        unfold aParent
        rw [if_neg (by rintro ⟨z1, z2, z3⟩; first | (rw [b2i_0 (b := isS S.1.length se) (by assumption)] at z1; exact absurd z1 (by decide)) | (rw [b2i_0 (b := inB se ro) (by assumption)] at z2; exact absurd z2 (by decide)) | (rw [b2i_0 (b := inB se b) (by assumption)] at z3; exact absurd z3 (by decide)))]
      rw [ea] at hQ
      exact hQ V hS gFr.rf
    · refine gX_iloadn dX11_parent_16 rfl ?_
      refine gX_iloadn dX11_parent_17 rfl ?_
      refine gX_stat (J := iX11_isIn) (av := [gi se, gi b]) (st := []) dX11_parent_18 lkX11_278 kX11_isIn sX11_isIn (gFit_m (by decide)) rfl (Nat.le_of_ble_eq_true rfl) (Nat.zero_le _) (Nat.zero_le _) rfl ?_
      refine c_isIn ?_
      show gX l E _ 21 [some (ga 0), some (gi ro), some (gi se), some (gi b)] [gi (b2i (inB se b))] (K, R, V) _ _
      refine gX_ifne (tgt := 28) dX11_parent_21 (by decide) (fun w3 => ?_) (fun w3 => ?_)
      · refine gX_aloadn dX11_parent_28 rfl ?_
        refine gX_iloadn dX11_parent_29 rfl ?_
        refine gX_iloadn dX11_parent_30 rfl ?_
        refine gX_virt (J := iX11_growTree) (av := [gi ro, gi se]) (a := 0) (st := []) dX11_parent_31 lkX11_282 kX11_growTree vX11_growTree (gFit_m (by decide)) hO rfl rfl (Nat.le_of_ble_eq_true rfl) (Nat.zero_le _) (Nat.zero_le _) rfl ?_
        refine c_growTree hG0 hS (fun V1 ht1 hf1 => ?_)
        show gX l E _ 34 [some (ga 0), some (gi ro), some (gi se), some (gi b)] [] (K, R, V1) _ _
        refine gX_aloadn dX11_parent_34 rfl ?_
        refine gX_gR 8 dX11_parent_35 fdX11_64 rfl rfl hO r8 ?_
        refine gX_gR 1 dX11_parent_38 fdX11_285 rfl rfl hTr.1 hTr.2.2.1 ?_
        refine gX_iloadn dX11_parent_41 rfl ?_
        refine gX_virt (J := iX6_at) (av := [gi b]) (a := (L + 3)) (st := []) dX11_parent_42 lkX11_132 kX6_at vX6_at (gFit_m (by decide)) hTr.2.2.2.2.1 rfl rfl (Nat.le_of_ble_eq_true rfl) (Nat.zero_le _) (Nat.zero_le _) rfl ?_
        refine q_Row_at hTr.2.2.2.2 ht1.2.1 ?_
        show gX l E _ 45 [some (ga 0), some (gi ro), some (gi se), some (gi b)] [gi (lat (gtT S ro se).1 b)] (K, R, V1) _ _
        refine gX_iret dX11_parent_45 (Or.inl rfl) ?_
        have ea : aParent S ro se b = lat (gtT S ro se).1 b := by
          unfold aParent
          rw [if_pos ⟨b2i_1 (by assumption), b2i_1 (by assumption), b2i_1 (by assumption)⟩]
        rw [ea] at hQ
        exact hQ V1 (hS.look (hf1.wide (by omega) (by omega))) (hf1.wide (by omega) (by omega))
      · refine gX_sipush dX11_parent_24 (by decide) ⟨by decide, by decide⟩ ?_
        refine gX_iret dX11_parent_27 (Or.inl rfl) ?_
        have ea : aParent S ro se b = -1001 := by
          unfold aParent
          rw [if_neg (by rintro ⟨z1, z2, z3⟩; first | (rw [b2i_0 (b := isS S.1.length se) (by assumption)] at z1; exact absurd z1 (by decide)) | (rw [b2i_0 (b := inB se ro) (by assumption)] at z2; exact absurd z2 (by decide)) | (rw [b2i_0 (b := inB se b) (by assumption)] at z3; exact absurd z3 (by decide)))]
        rw [ea] at hQ
        exact hQ V hS gFr.rf
set_option maxRecDepth 4000 in
theorem c_tree (hG : gbK K R D T P S' A W L U) (hS : gbIs V S) (hQ : ∀ V', gbIs V' S → gFr V V' 0 775 → Q (some (gi (aTree S ro se w))) (K, R, V')) : gC l E (d + 6) iX11_tree [ga 0, gi ro, gi se, gi w] (K, R, V) Q := by
  refine gC_of kX11_tree (ls := [some (ga 0), some (gi ro), some (gi se), some (gi w)]) rfl (Nat.le_of_ble_eq_true rfl) ?_
  have hG0 := hG
  obtain ⟨⟨eD, eT, eP, eS, eA, eW, eL, eU⟩, hO, ⟨r0, r1, r2, r3, r4, r5, r6, r7, r8, r9⟩, k1, k2, hDr, hTo, hRe, hSc, hAl, hWt, hTr, hPr, hBk, hHd⟩ := hG
  have hn0 := hS.1
  have hn1 := hS.2.1
  refine gX_aloadn dX11_tree_0 rfl ?_
  refine gX_iloadn dX11_tree_1 rfl ?_
  refine gX_virt (J := iX11_isSetOfBooks) (av := [gi se]) (a := 0) (st := []) dX11_tree_2 lkX11_252 kX11_isSetOfBooks vX11_isSetOfBooks (gFit_m (by decide)) hO rfl rfl (Nat.le_of_ble_eq_true rfl) (Nat.zero_le _) (Nat.zero_le _) rfl ?_
  refine c_isSet hG0 hS ?_
  show gX l E _ 5 [some (ga 0), some (gi ro), some (gi se), some (gi w)] [gi (b2i (isS S.1.length se))] (K, R, V) _ _
  refine gX_ifeq (tgt := 16) dX11_tree_5 (by decide) (fun w1 => ?_) (fun w1 => ?_)
  · refine gX_sipush dX11_tree_16 (by decide) ⟨by decide, by decide⟩ ?_
    refine gX_iret dX11_tree_19 (Or.inl rfl) ?_
    have ea : aTree S ro se w = -1001 := by
      unfold aTree
      rw [if_neg (by rintro ⟨z1, z2⟩; first | (rw [b2i_0 (b := isS S.1.length se) (by assumption)] at z1; exact absurd z1 (by decide)) | (rw [b2i_0 (b := inB se ro) (by assumption)] at z2; exact absurd z2 (by decide)))]
    rw [ea] at hQ
    exact hQ V hS gFr.rf
  · refine gX_iloadn dX11_tree_8 rfl ?_
    refine gX_iloadn dX11_tree_9 rfl ?_
    refine gX_stat (J := iX11_isIn) (av := [gi se, gi ro]) (st := []) dX11_tree_10 lkX11_278 kX11_isIn sX11_isIn (gFit_m (by decide)) rfl (Nat.le_of_ble_eq_true rfl) (Nat.zero_le _) (Nat.zero_le _) rfl ?_
    refine c_isIn ?_
    show gX l E _ 13 [some (ga 0), some (gi ro), some (gi se), some (gi w)] [gi (b2i (inB se ro))] (K, R, V) _ _
    refine gX_ifne (tgt := 20) dX11_tree_13 (by decide) (fun w2 => ?_) (fun w2 => ?_)
    · refine gX_iloadn dX11_tree_20 rfl ?_
      refine gX_iflt (tgt := 29) dX11_tree_21 (by decide) (fun w3 => ?_) (fun w3 => ?_)
      · refine gX_sipush dX11_tree_29 (by decide) ⟨by decide, by decide⟩ ?_
        refine gX_iret dX11_tree_32 (Or.inl rfl) ?_
        have ea : aTree S ro se w = -1002 := by
          unfold aTree
          rw [if_pos ⟨b2i_1 (by assumption), b2i_1 (by assumption)⟩, if_neg (by omega)]
        rw [ea] at hQ
        exact hQ V hS gFr.rf
      · refine gX_iloadn dX11_tree_24 rfl ?_
        refine gX_iconst dX11_tree_25 ⟨by decide, by decide⟩ ?_
        refine gX_icmple (tgt := 33) dX11_tree_26 (by decide) (fun w4 => ?_) (fun w4 => ?_)
        · refine gX_aloadn dX11_tree_33 rfl ?_
          refine gX_iloadn dX11_tree_34 rfl ?_
          refine gX_iloadn dX11_tree_35 rfl ?_
          refine gX_virt (J := iX11_growTree) (av := [gi ro, gi se]) (a := 0) (st := []) dX11_tree_36 lkX11_282 kX11_growTree vX11_growTree (gFit_m (by decide)) hO rfl rfl (Nat.le_of_ble_eq_true rfl) (Nat.zero_le _) (Nat.zero_le _) rfl ?_
          refine c_growTree hG0 hS (fun V1 ht1 hf1 => ?_)
          show gX l E _ 39 [some (ga 0), some (gi ro), some (gi se), some (gi w)] [] (K, R, V1) _ _
          refine gX_iloadn dX11_tree_39 rfl ?_
          refine gX_ifne (tgt := 53) dX11_tree_40 (by decide) (fun w5 => ?_) (fun w5 => ?_)
          · refine gX_aloadn dX11_tree_53 rfl ?_
            refine gX_iloadn dX11_tree_54 rfl ?_
            refine gX_iloadn dX11_tree_55 rfl ?_
            refine gX_virt (J := iX11_astray) (av := [gi ro, gi se]) (a := 0) (st := []) dX11_tree_56 lkX11_291 kX11_astray vX11_astray (gFit_m (by decide)) hO rfl rfl (Nat.le_of_ble_eq_true rfl) (Nat.zero_le _) (Nat.zero_le _) rfl ?_
            refine c_astray hG0 (hS.look (hf1.wide (by omega) (by omega))) ht1 ?_
            show gX l E _ 59 [some (ga 0), some (gi ro), some (gi se), some (gi w)] [gi (asF S (gtT S ro se).1 ro se S.1.length 0 0)] (K, R, V1) _ _
            refine gX_iret dX11_tree_59 (Or.inl rfl) ?_
            have ea : aTree S ro se w = asF S (gtT S ro se).1 ro se S.1.length 0 0 := by
              unfold aTree
              rw [if_pos ⟨b2i_1 (by assumption), b2i_1 (by assumption)⟩, if_pos (by omega), if_neg (by omega)]
            rw [ea] at hQ
            exact hQ V1 (hS.look (hf1.wide (by omega) (by omega))) (hf1.wide (by omega) (by omega))
          · refine gX_aloadn dX11_tree_43 rfl ?_
            refine gX_gR 8 dX11_tree_44 fdX11_64 rfl rfl hO r8 ?_
            refine gX_gI 2 dX11_tree_47 fdX11_288 rfl (Or.inl rfl) hTr.1 ?_
            rw [ht1.2.2]
            refine gX_goto (tgt := 59) dX11_tree_50 (by decide) ?_
            refine gX_iret dX11_tree_59 (Or.inl rfl) ?_
            have ea : aTree S ro se w = (gtT S ro se).2 := by
              unfold aTree
              rw [if_pos ⟨b2i_1 (by assumption), b2i_1 (by assumption)⟩, if_pos (by omega), if_pos (by omega)]
            rw [ea] at hQ
            exact hQ V1 (hS.look (hf1.wide (by omega) (by omega))) (hf1.wide (by omega) (by omega))
        · refine gX_sipush dX11_tree_29 (by decide) ⟨by decide, by decide⟩ ?_
          refine gX_iret dX11_tree_32 (Or.inl rfl) ?_
          have ea : aTree S ro se w = -1002 := by
            unfold aTree
            rw [if_pos ⟨b2i_1 (by assumption), b2i_1 (by assumption)⟩, if_neg (by omega)]
          rw [ea] at hQ
          exact hQ V hS gFr.rf
    · refine gX_sipush dX11_tree_16 (by decide) ⟨by decide, by decide⟩ ?_
      refine gX_iret dX11_tree_19 (Or.inl rfl) ?_
      have ea : aTree S ro se w = -1001 := by
        unfold aTree
        rw [if_neg (by rintro ⟨z1, z2⟩; first | (rw [b2i_0 (b := isS S.1.length se) (by assumption)] at z1; exact absurd z1 (by decide)) | (rw [b2i_0 (b := inB se ro) (by assumption)] at z2; exact absurd z2 (by decide)))]
      rw [ea] at hQ
      exact hQ V hS gFr.rf
end GB4
