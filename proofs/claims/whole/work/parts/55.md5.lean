/-! The reference: most, restored, groups. Written by wip/whole/tools/mk_md5.py. -/
theorem gshl_p : ∀ n : Fin 11, gshl 1 ((n : Nat) : Int) = ((2 ^ (n : Nat) : Nat) : Int) := by decide +kernel
theorem gshl_pw {n : Nat} (h : n ≤ 10) : gshl 1 (n : Int) = ((2 ^ n : Nat) : Int) := gshl_p ⟨n, by omega⟩
theorem p2_le {n : Nat} (h : n ≤ 10) : (2 ^ n : Nat) ≤ 1024 := Nat.pow_le_pow_right (n := 2) (by decide) h
/-- all words are words -/
def wdA' (S : gbS) : Prop := ∀ b : Int, 0 ≤ b → b < S.1.length → ∀ x ∈ gbX S b, 0 ≤ x ∧ x ≤ 63
theorem rdg_bd {S : gbS} (h : wdA' S) {ba b i : Int} (h0 : 0 ≤ b) (h1 : b < S.1.length) : -1 ≤ rdg S ba b i ∧ rdg S ba b i ≤ 63 := by
  unfold rdg
  rcases lat_cs (gbX S b) (lat (alg (gbX S ba) (gbX S b) 0) i) with e | e
  · omega
  · have := h b h0 h1 _ e; omega
theorem mmF_ge {S : gbS} {ba al i : Int} : ∀ (k : Nat) (r be mn : Int), -1 ≤ r → -1 ≤ be → -1 ≤ mmF S ba al i k r be mn
  | 0, _, _, _, _, h => h
  | k + 1, r, be, mn, h0, h => by
    show -1 ≤ mmF S ba al i k (r + 1) _ _
    refine mmF_ge k (r + 1) _ _ (by omega) ?_
    split <;> omega
theorem moA_ge {S : gbS} {ba se i : Int} (hw : wdA' S) (hn : S.1.length ≤ 10) (hl : (gbX S ba).length ≤ 40) (hba : 0 ≤ ba ∧ ba < S.1.length) (hs : 0 ≤ se ∧ se < ((2 ^ S.1.length : Nat) : Int)) (hi : 0 ≤ i ∧ i < (gbX S ba).length) : -1 ≤ moA (hwR S ba se) ba se i := by
  rw [← mmA_moA hn hl hba hs hi]
  exact mmF_ge 65 (-1) _ _ (by omega) (rdg_bd hw hba.1 hba.2).1
section MD5
variable {l : Launch} {E : gE} {d : Nat} {K : List gK} {R V : Int → Int → Int} {a b i w ba se r : Int} {Q : gQ} {S : gbS}
set_option maxRecDepth 4000 in
theorem m_most (hM : mdK K R) (hS : mdIs V S) (hse : in32 se) (hQ : ∀ V', qFr V V' → Q (some (gi (aMost S ba se i w))) (K, R, V')) : gC l E (d + 5) iX12_most [ga 775, gi ba, gi se, gi i, gi w] (K, R, V) Q := by
  refine gC_of kX12_most (ls := [some (ga 775), some (gi ba), some (gi se), some (gi i), some (gi w), none]) rfl (Nat.le_of_ble_eq_true rfl) ?_
  have hn0 := hS.1
  have hn1 := hS.2.1
  have hgp := gshl_pw hn1
  have hp2 := p2_le hn1
  refine gX_aloadn dX12_most_0 rfl ?_
  refine gX_iloadn dX12_most_1 rfl ?_
  refine gX_virt (J := iX12_isBook) (av := [gi ba]) (a := 775) (st := []) dX12_most_2 lkX12_371 kX12_isBook vX12_isBook (gFit_m (by decide)) hM.1 rfl rfl (Nat.le_of_ble_eq_true rfl) (Nat.zero_le _) (Nat.zero_le _) rfl ?_
  refine m_isBook hM hS.1 hS.2.1 ?_
  show gX l E _ 5 [some (ga 775), some (gi ba), some (gi se), some (gi i), some (gi w), none] [gi (b2i (inR ba 0 ((S.1.length : Int) - 1)))] (K, R, V) _ _
  refine gX_ifeq (tgt := 16) dX12_most_5 (by decide) (fun w1 => ?_) (fun w1 => ?_)
  · have w1 := inR_0 w1
    refine gX_sipush dX12_most_16 (by decide) ⟨by decide, by decide⟩ ?_
    refine gX_iret dX12_most_19 (Or.inl rfl) ?_
    have ea : aMost S ba se i w = -1001 := by
      unfold aMost
      rw [if_neg (by rintro ⟨z1, z2⟩; have z3 := (isS_iff hn1 hse).mp z2; omega)]
    rw [ea] at hQ
    exact hQ V qFr.rf
  · have w1 := inR_1 w1
    refine gX_aloadn dX12_most_8 rfl ?_
    refine gX_iloadn dX12_most_9 rfl ?_
    refine gX_virt (J := iX12_areBooks) (av := [gi se]) (a := 775) (st := []) dX12_most_10 lkX12_434 kX12_areBooks vX12_areBooks (gFit_m (by decide)) hM.1 rfl rfl (Nat.le_of_ble_eq_true rfl) (Nat.zero_le _) (Nat.zero_le _) rfl ?_
    refine m_areBooks hM hS.1 hS.2.1 ?_
    show gX l E _ 13 [some (ga 775), some (gi ba), some (gi se), some (gi i), some (gi w), none] [gi (b2i (inR se 0 (gshl 1 (S.1.length : Int) - 1)))] (K, R, V) _ _
    refine gX_ifne (tgt := 20) dX12_most_13 (by decide) (fun w2 => ?_) (fun w2 => ?_)
    · have w2 := inR_1 w2
      have hr1 : 0 ≤ ba ∧ ba < S.1.length := ⟨by omega, by omega⟩
      have hk1 := (hS.2.2.2.1 ba hr1.1 hr1.2).1.tx
      rw [show (gbq S ba).1 = gbX S ba from rfl] at hk1
      have hq40 := hk1.2.1
      have hss : 0 ≤ se ∧ se < ((2 ^ S.1.length : Nat) : Int) := ⟨by omega, by omega⟩
      refine gX_iloadn dX12_most_20 rfl ?_
      refine gX_i2l dX12_most_21 ?_
      refine gX_lconst (x := 0) dX12_most_22 (by decide) ⟨by decide, by decide⟩ ?_
      refine gX_aloadn dX12_most_23 rfl ?_
      refine gX_gR 1 dX12_most_24 fdX12_7 rfl rfl hM.1 (mR1 hM) ?_
      refine gX_iloadn dX12_most_27 rfl ?_
      refine gX_iald dX12_most_28 (mA1 hM) (by omega) (by omega) ?_
      rw [hk1.1]
      refine gX_iconst dX12_most_29 ⟨by decide, by decide⟩ ?_
      refine gX_isub dX12_most_30 ⟨by omega, by omega⟩ ?_
      refine gX_i2l dX12_most_31 ?_
      refine gX_stat (J := iX12_in) (av := [gl i, gl 0, gl (((gbX S ba).length : Int) - 1)]) (st := []) dX12_most_32 lkX12_154 kX12_in sX12_in (gFit_m (by decide)) rfl (Nat.le_of_ble_eq_true rfl) (Nat.zero_le _) (Nat.zero_le _) rfl ?_
      refine m_in ?_
      show gX l E _ 35 [some (ga 775), some (gi ba), some (gi se), some (gi i), some (gi w), none] [gi (b2i (inR i 0 (((gbX S ba).length : Int) - 1)))] (K, R, V) _ _
      refine gX_ifeq (tgt := 49) dX12_most_35 (by decide) (fun w3 => ?_) (fun w3 => ?_)
      · have w3 := inR_0 w3
        refine gX_sipush dX12_most_49 (by decide) ⟨by decide, by decide⟩ ?_
        refine gX_iret dX12_most_52 (Or.inl rfl) ?_
        have ea : aMost S ba se i w = -1002 := by
          unfold aMost
          rw [if_pos ⟨hr1, (isS_iff hn1 hse).mpr hss⟩, if_neg (by omega)]
        rw [ea] at hQ
        exact hQ V qFr.rf
      · have w3 := inR_1 w3
        refine gX_iload dX12_most_38 rfl ?_
        refine gX_i2l dX12_most_40 ?_
        refine gX_lconst (x := 0) dX12_most_41 (by decide) ⟨by decide, by decide⟩ ?_
        refine gX_lconst (x := 1) dX12_most_42 (by decide) ⟨by decide, by decide⟩ ?_
        refine gX_stat (J := iX12_in) (av := [gl w, gl 0, gl 1]) (st := []) dX12_most_43 lkX12_154 kX12_in sX12_in (gFit_m (by decide)) rfl (Nat.le_of_ble_eq_true rfl) (Nat.zero_le _) (Nat.zero_le _) rfl ?_
        refine m_in ?_
        show gX l E _ 46 [some (ga 775), some (gi ba), some (gi se), some (gi i), some (gi w), none] [gi (b2i (inR w 0 1))] (K, R, V) _ _
        refine gX_ifne (tgt := 53) dX12_most_46 (by decide) (fun w4 => ?_) (fun w4 => ?_)
        · have w4 := inR_1 w4
          refine gX_aloadn dX12_most_53 rfl ?_
          refine gX_iloadn dX12_most_54 rfl ?_
          refine gX_iloadn dX12_most_55 rfl ?_
          refine gX_virt (J := iX12_findReadings) (av := [gi ba, gi se]) (a := 775) (st := []) dX12_most_56 lkX12_428 kX12_findReadings vX12_findReadings (gFit_m (by decide)) hM.1 rfl rfl (Nat.le_of_ble_eq_true rfl) (Nat.zero_le _) (Nat.zero_le _) rfl ?_
          refine m_findReadings hM hS hr1 (fun V1 hc1 hf1 => ?_)
          show gX l E _ 59 [some (ga 775), some (gi ba), some (gi se), some (gi i), some (gi w), none] [] (K, R, V1) _ _
          refine gX_aloadn dX12_most_59 rfl ?_
          refine gX_iloadn dX12_most_60 rfl ?_
          refine gX_iloadn dX12_most_61 rfl ?_
          refine gX_iloadn dX12_most_62 rfl ?_
          refine gX_virt (J := iX12_mostAt) (av := [gi ba, gi se, gi i]) (a := 775) (st := []) dX12_most_63 lkX12_437 kX12_mostAt vX12_mostAt (gFit_m (by decide)) hM.1 rfl rfl (Nat.le_of_ble_eq_true rfl) (Nat.zero_le _) (Nat.zero_le _) rfl ?_
          refine m_mostAt hM (by rw [hf1 775 (by omega)]; exact hS.1) hn1 hr1 ⟨by omega, by omega⟩ ⟨by omega, by omega⟩ hq40 hc1 ?_
          show gX l E _ 66 [some (ga 775), some (gi ba), some (gi se), some (gi i), some (gi w), none] [gi (mmA S ba se i)] (K, R, V1) _ _
          rw [mmA_moA hn1 hq40 hr1 hss ⟨by omega, by omega⟩]
          refine gX_istore dX12_most_66 (show (5 : Nat) < 6 from by decide) (ls2 := [some (ga 775), some (gi ba), some (gi se), some (gi i), some (gi w), some (gi (moA (hwR S ba se) ba se i))]) rfl ?_
          refine gX_iload dX12_most_68 rfl ?_
          refine gX_ifne (tgt := 78) dX12_most_70 (by decide) (fun w5 => ?_) (fun w5 => ?_)
          · refine gX_aloadn dX12_most_78 rfl ?_
            refine gX_iloadn dX12_most_79 rfl ?_
            refine gX_iconst dX12_most_80 ⟨by decide, by decide⟩ ?_
            refine gX_iloadn dX12_most_81 rfl ?_
            refine gX_ishl dX12_most_82 ?_
            refine gX_ior dX12_most_83 ?_
            refine gX_iloadn dX12_most_84 rfl ?_
            refine gX_iload dX12_most_85 rfl ?_
            refine gX_virt (J := iX12_having) (av := [gi (gor se (gshl 1 ba)), gi i, gi (moA (hwR S ba se) ba se i)]) (a := 775) (st := []) dX12_most_87 lkX12_431 kX12_having vX12_having (gFit_m (by decide)) hM.1 rfl rfl (Nat.le_of_ble_eq_true rfl) (Nat.zero_le _) (Nat.zero_le _) rfl ?_
            refine m_having (ba := ba) hM (by rw [hf1 775 (by omega)]; exact hS.1) hn1 ⟨by omega, by omega⟩ (fun b z0 z1 z2 => hc1 b i z0 z1 ((bt_gor ⟨by omega, by omega⟩ ⟨by omega, by omega⟩ ⟨z0, by omega⟩).mp z2) (by omega) (by omega)) ?_
            show gX l E _ 90 [some (ga 775), some (gi ba), some (gi se), some (gi i), some (gi w), some (gi (moA (hwR S ba se) ba se i))] [gi (hvC S ba (gor se (gshl 1 ba)) i (moA (hwR S ba se) ba se i))] (K, R, V1) _ _
            rw [hvC_vts hn1 hq40 hr1 hss ⟨by omega, by omega⟩]
            refine gX_iret dX12_most_90 (Or.inl rfl) ?_
            have ea : aMost S ba se i w = vts (hwR S ba se) ba se i (moA (hwR S ba se) ba se i) := by
              unfold aMost
              rw [if_pos ⟨hr1, (isS_iff hn1 hse).mpr hss⟩, if_pos (by omega), if_neg (by omega)]
            rw [ea] at hQ
            exact hQ V1 hf1.q
          · refine gX_iload dX12_most_73 rfl ?_
            refine gX_goto (tgt := 90) dX12_most_75 (by decide) ?_
            refine gX_iret dX12_most_90 (Or.inl rfl) ?_
            have ea : aMost S ba se i w = moA (hwR S ba se) ba se i := by
              unfold aMost
              rw [if_pos ⟨hr1, (isS_iff hn1 hse).mpr hss⟩, if_pos (by omega), if_pos (by omega)]
            rw [ea] at hQ
            exact hQ V1 hf1.q
        · have w4 := inR_0 w4
          refine gX_sipush dX12_most_49 (by decide) ⟨by decide, by decide⟩ ?_
          refine gX_iret dX12_most_52 (Or.inl rfl) ?_
          have ea : aMost S ba se i w = -1002 := by
            unfold aMost
            rw [if_pos ⟨hr1, (isS_iff hn1 hse).mpr hss⟩, if_neg (by omega)]
          rw [ea] at hQ
          exact hQ V qFr.rf
    · have w2 := inR_0 w2
      refine gX_sipush dX12_most_16 (by decide) ⟨by decide, by decide⟩ ?_
      refine gX_iret dX12_most_19 (Or.inl rfl) ?_
      have ea : aMost S ba se i w = -1001 := by
        unfold aMost
        rw [if_neg (by rintro ⟨z1, z2⟩; have z3 := (isS_iff hn1 hse).mp z2; omega)]
      rw [ea] at hQ
      exact hQ V qFr.rf
theorem lat_app_x {xs : List Int} {i x : Int} (h : i ≠ xs.length) : lat (xs ++ [x]) i = lat xs i := by
  by_cases h0 : 0 ≤ i ∧ i < xs.length
  · exact lat_app_l h0.1 h0.2
  · rw [lat_out h0, lat_out (by rw [List.length_append]; show ¬ (0 ≤ i ∧ i < ((xs.length + 1 : Nat) : Int)); omega)]
set_option maxRecDepth 4000 in
theorem m_restored (hM : mdK K R) (hS : mdIs V S) (hse : in32 se) (hw : wdA' S) (hQ : ∀ V', qFr V V' → Q (some (gi (aRest S ba se i))) (K, R, V')) : gC l E (d + 5) iX12_restored [ga 775, gi ba, gi se, gi i] (K, R, V) Q := by
  refine gC_of kX12_restored (ls := [some (ga 775), some (gi ba), some (gi se), some (gi i), none, none, none, none]) rfl (Nat.le_of_ble_eq_true rfl) ?_
  have hn0 := hS.1
  have hn1 := hS.2.1
  have hgp := gshl_pw hn1
  have hp2 := p2_le hn1
  refine gX_aloadn dX12_restored_0 rfl ?_
  refine gX_iloadn dX12_restored_1 rfl ?_
  refine gX_virt (J := iX12_isBook) (av := [gi ba]) (a := 775) (st := []) dX12_restored_2 lkX12_371 kX12_isBook vX12_isBook (gFit_m (by decide)) hM.1 rfl rfl (Nat.le_of_ble_eq_true rfl) (Nat.zero_le _) (Nat.zero_le _) rfl ?_
  refine m_isBook hM hS.1 hS.2.1 ?_
  show gX l E _ 5 [some (ga 775), some (gi ba), some (gi se), some (gi i), none, none, none, none] [gi (b2i (inR ba 0 ((S.1.length : Int) - 1)))] (K, R, V) _ _
  refine gX_ifeq (tgt := 16) dX12_restored_5 (by decide) (fun m1 => ?_) (fun m1 => ?_)
  · have m1 := inR_0 m1
    refine gX_sipush dX12_restored_16 (by decide) ⟨by decide, by decide⟩ ?_
    refine gX_iret dX12_restored_19 (Or.inl rfl) ?_
    have ea : aRest S ba se i = -1001 := by
      unfold aRest
      rw [if_neg (by rintro ⟨z1, z2⟩; have z3 := (isS_iff hn1 hse).mp z2; omega)]
    rw [ea] at hQ
    exact hQ V qFr.rf
  · have m1 := inR_1 m1
    refine gX_aloadn dX12_restored_8 rfl ?_
    refine gX_iloadn dX12_restored_9 rfl ?_
    refine gX_virt (J := iX12_areBooks) (av := [gi se]) (a := 775) (st := []) dX12_restored_10 lkX12_434 kX12_areBooks vX12_areBooks (gFit_m (by decide)) hM.1 rfl rfl (Nat.le_of_ble_eq_true rfl) (Nat.zero_le _) (Nat.zero_le _) rfl ?_
    refine m_areBooks hM hS.1 hS.2.1 ?_
    show gX l E _ 13 [some (ga 775), some (gi ba), some (gi se), some (gi i), none, none, none, none] [gi (b2i (inR se 0 (gshl 1 (S.1.length : Int) - 1)))] (K, R, V) _ _
    refine gX_ifne (tgt := 20) dX12_restored_13 (by decide) (fun m2 => ?_) (fun m2 => ?_)
    · have m2 := inR_1 m2
      have hr1 : 0 ≤ ba ∧ ba < S.1.length := ⟨by omega, by omega⟩
      have hk1 := (hS.2.2.2.1 ba hr1.1 hr1.2).1.tx
      rw [show (gbq S ba).1 = gbX S ba from rfl] at hk1
      have hq40 := hk1.2.1
      have hss : 0 ≤ se ∧ se < ((2 ^ S.1.length : Nat) : Int) := ⟨by omega, by omega⟩
      refine gX_aloadn dX12_restored_20 rfl ?_
      refine gX_iloadn dX12_restored_21 rfl ?_
      refine gX_iloadn dX12_restored_22 rfl ?_
      refine gX_virt (J := iX12_findReadings) (av := [gi ba, gi se]) (a := 775) (st := []) dX12_restored_23 lkX12_428 kX12_findReadings vX12_findReadings (gFit_m (by decide)) hM.1 rfl rfl (Nat.le_of_ble_eq_true rfl) (Nat.zero_le _) (Nat.zero_le _) rfl ?_
      refine m_findReadings hM hS hr1 (fun V1 hc1 hf1 => ?_)
      show gX l E _ 26 [some (ga 775), some (gi ba), some (gi se), some (gi i), none, none, none, none] [] (K, R, V1) _ _
      refine gX_iconst dX12_restored_26 ⟨by decide, by decide⟩ ?_
      refine gX_istore dX12_restored_27 (show (4 : Nat) < 8 from by decide) (ls2 := [some (ga 775), some (gi ba), some (gi se), some (gi i), some (gi 0), none, none, none]) rfl ?_
      refine gX_iconst dX12_restored_29 ⟨by decide, by decide⟩ ?_
      refine gX_istore dX12_restored_30 (show (5 : Nat) < 8 from by decide) (ls2 := [some (ga 775), some (gi ba), some (gi se), some (gi i), some (gi 0), some (gi (-1)), none, none]) rfl ?_
      refine gX_iconst dX12_restored_32 ⟨by decide, by decide⟩ ?_
      refine gX_istore dX12_restored_33 (show (6 : Nat) < 8 from by decide) (ls2 := [some (ga 775), some (gi ba), some (gi se), some (gi i), some (gi 0), some (gi (-1)), some (gi 0), none]) rfl ?_
      have lp : ∀ (jj : Nat) (k : Int) (n : Int) (f : Int) (j7 : Option gV) (o1 : List Int) (bc bs : Nat), ((gbX S ba).length : Int) - k < (jj : Int) → 0 ≤ k → k ≤ (gbX S ba).length → n = o1.length → f = lat o1 i → o1.length ≤ k → (Q (some (gi (lni (rsF (hwR S ba se) ba se ((gbX S ba).length - k.toNat) k o1) i))) (K, R, V1)) → gX l E (gFm E (d + 5) iX12_restored Q) 35 [some (ga 775), some (gi ba), some (gi se), some (gi i), some (gi n), some (gi f), some (gi k), j7] [] (K, R, V1) bc bs := by
        intro jj
        induction jj with
        | zero =>
          intro k n f j7 o1 bc bs hj q0 q1 q2 q3 q4 hq2
          exfalso; omega
        | succ jj ih =>
          intro k n f j7 o1 bc bs hj q0 q1 q2 q3 q4 hq2
          refine gX_iload dX12_restored_35 rfl ?_
          refine gX_aloadn dX12_restored_37 rfl ?_
          refine gX_gR 1 dX12_restored_38 fdX12_7 rfl rfl hM.1 (mR1 hM) ?_
          refine gX_iloadn dX12_restored_41 rfl ?_
          refine gX_iald dX12_restored_42 (mA1 hM) (by omega) (by omega) ?_
          rw [show V1 776 ba = (gbX S ba).length by rw [hf1 776 (by omega)]; exact hk1.1]
          refine gX_icmpge (tgt := 97) dX12_restored_43 (by decide) (fun w1 => ?_) (fun w1 => ?_)
          · refine gX_iloadn dX12_restored_97 rfl ?_
            refine gX_iconst dX12_restored_98 ⟨by decide, by decide⟩ ?_
            refine gX_icmpne (tgt := 107) dX12_restored_99 (by decide) (fun w2 => ?_) (fun w2 => ?_)
            · refine gX_iload dX12_restored_107 rfl ?_
              refine gX_iret dX12_restored_109 (Or.inl rfl) ?_
              have ei : (gbX S ba).length - k.toNat = 0 := by omega
              rw [ei] at hq2
              have ez : lni (rsF (hwR S ba se) ba se 0 k o1) i = f := by
                show lni o1 i = _
                unfold lni
                rw [if_neg (by omega)]; exact q3.symm
              rw [ez] at hq2
              exact hq2
            · refine gX_iload dX12_restored_102 rfl ?_
              refine gX_goto (tgt := 109) dX12_restored_104 (by decide) ?_
              refine gX_iret dX12_restored_109 (Or.inl rfl) ?_
              have ei : (gbX S ba).length - k.toNat = 0 := by omega
              rw [ei] at hq2
              have ez : lni (rsF (hwR S ba se) ba se 0 k o1) i = n := by
                show lni o1 i = _
                unfold lni
                rw [if_pos (by omega)]; omega
              rw [ez] at hq2
              exact hq2
          · refine gX_aloadn dX12_restored_46 rfl ?_
            refine gX_iloadn dX12_restored_47 rfl ?_
            refine gX_iloadn dX12_restored_48 rfl ?_
            refine gX_iload dX12_restored_49 rfl ?_
            refine gX_virt (J := iX12_mostAt) (av := [gi ba, gi se, gi k]) (a := 775) (st := []) dX12_restored_51 lkX12_437 kX12_mostAt vX12_mostAt (gFit_m (by decide)) hM.1 rfl rfl (Nat.le_of_ble_eq_true rfl) (Nat.zero_le _) (Nat.zero_le _) rfl ?_
            refine m_mostAt hM (by rw [hf1 775 (by omega)]; exact hS.1) hn1 hr1 ⟨by omega, by omega⟩ ⟨by omega, by omega⟩ hq40 hc1 ?_
            show gX l E _ 54 [some (ga 775), some (gi ba), some (gi se), some (gi i), some (gi n), some (gi f), some (gi k), j7] [gi (mmA S ba se k)] (K, R, V1) _ _
            rw [mmA_moA hn1 hq40 hr1 hss ⟨by omega, by omega⟩]
            have hmg := moA_ge hw hn1 hq40 hr1 hss ⟨by omega, by omega⟩
            refine gX_istore dX12_restored_54 (show (7 : Nat) < 8 from by decide) (ls2 := [some (ga 775), some (gi ba), some (gi se), some (gi i), some (gi n), some (gi f), some (gi k), some (gi (moA (hwR S ba se) ba se k))]) rfl ?_
            refine gX_iload dX12_restored_56 rfl ?_
            refine gX_iflt (tgt := 72) dX12_restored_58 (by decide) (fun w3 => ?_) (fun w3 => ?_)
            · refine gX_iload dX12_restored_72 rfl ?_
              refine gX_istore dX12_restored_74 (show (5 : Nat) < 8 from by decide) (ls2 := [some (ga 775), some (gi ba), some (gi se), some (gi i), some (gi n), some (gi f), some (gi k), some (gi (moA (hwR S ba se) ba se k))]) rfl ?_
              refine gX_iload dX12_restored_76 rfl ?_
              refine gX_iload dX12_restored_78 rfl ?_
              refine gX_iflt (tgt := 87) dX12_restored_80 (by decide) (fun w4 => ?_) (fun w4 => ?_)
              · refine gX_iconst dX12_restored_87 ⟨by decide, by decide⟩ ?_
                refine gX_iadd dX12_restored_88 ⟨by omega, by omega⟩ ?_
                refine gX_istore dX12_restored_89 (show (4 : Nat) < 8 from by decide) (ls2 := [some (ga 775), some (gi ba), some (gi se), some (gi i), some (gi (n + 0)), some (gi f), some (gi k), some (gi (moA (hwR S ba se) ba se k))]) rfl ?_
                refine gX_iinc dX12_restored_91 rfl (show (6 : Nat) < 8 from by decide) ⟨by omega, by omega⟩ (ls2 := [some (ga 775), some (gi ba), some (gi se), some (gi i), some (gi (n + 0)), some (gi f), some (gi (k + 1)), some (gi (moA (hwR S ba se) ba se k))]) rfl ?_
                refine gX_goto (tgt := 35) dX12_restored_94 (by decide) ?_
                first
                | (exfalso; omega)
                | (have ek : (gbX S ba).length - k.toNat = ((gbX S ba).length - (k + 1).toNat) + 1 := by omega
                   have e1 : rsF (hwR S ba se) ba se ((gbX S ba).length - k.toNat) k o1 = rsF (hwR S ba se) ba se ((gbX S ba).length - (k + 1).toNat) (k + 1) o1 := by
                     rw [ek]
                     show rsF (hwR S ba se) ba se _ _ (if _ then _ else _) = _
                     rw [if_pos (by omega)]
                   rw [e1] at hq2
                   exact ih (k + 1) _ _ _ o1 _ _ (by omega) (by omega) (by omega) (by omega) (by omega) (by omega) hq2)
              · refine gX_iconst dX12_restored_83 ⟨by decide, by decide⟩ ?_
                refine gX_goto (tgt := 88) dX12_restored_84 (by decide) ?_
                refine gX_iadd dX12_restored_88 ⟨by omega, by omega⟩ ?_
                refine gX_istore dX12_restored_89 (show (4 : Nat) < 8 from by decide) (ls2 := [some (ga 775), some (gi ba), some (gi se), some (gi i), some (gi (n + 1)), some (gi f), some (gi k), some (gi (moA (hwR S ba se) ba se k))]) rfl ?_
                refine gX_iinc dX12_restored_91 rfl (show (6 : Nat) < 8 from by decide) ⟨by omega, by omega⟩ (ls2 := [some (ga 775), some (gi ba), some (gi se), some (gi i), some (gi (n + 1)), some (gi f), some (gi (k + 1)), some (gi (moA (hwR S ba se) ba se k))]) rfl ?_
                refine gX_goto (tgt := 35) dX12_restored_94 (by decide) ?_
                first
                | (exfalso; omega)
                | (have ek : (gbX S ba).length - k.toNat = ((gbX S ba).length - (k + 1).toNat) + 1 := by omega
                   have e1 : rsF (hwR S ba se) ba se ((gbX S ba).length - k.toNat) k o1 = rsF (hwR S ba se) ba se ((gbX S ba).length - (k + 1).toNat) (k + 1) (o1 ++ [moA (hwR S ba se) ba se k]) := by
                     rw [ek]
                     show rsF (hwR S ba se) ba se _ _ (if _ then _ else _) = _
                     rw [if_neg (by omega), show ladd 160 o1 (moA (hwR S ba se) ba se k) = o1 ++ [moA (hwR S ba se) ba se k] from if_pos (by omega)]
                   rw [e1] at hq2
                   have e2 : lat (o1 ++ [moA (hwR S ba se) ba se k]) i = lat o1 i := lat_app_x (by omega)
                   exact ih (k + 1) _ _ _ (o1 ++ [moA (hwR S ba se) ba se k]) _ _ (by omega) (by omega) (by omega) (by rw [List.length_append]; show n + 1 = ((o1.length + 1 : Nat) : Int); omega) (by rw [e2]; exact q3) (by rw [List.length_append]; show ((o1.length + 1 : Nat) : Int) ≤ k + 1; omega) hq2)
            · refine gX_iload dX12_restored_61 rfl ?_
              refine gX_iloadn dX12_restored_63 rfl ?_
              refine gX_icmpne (tgt := 72) dX12_restored_64 (by decide) (fun w5 => ?_) (fun w5 => ?_)
              · refine gX_iload dX12_restored_72 rfl ?_
                refine gX_istore dX12_restored_74 (show (5 : Nat) < 8 from by decide) (ls2 := [some (ga 775), some (gi ba), some (gi se), some (gi i), some (gi n), some (gi f), some (gi k), some (gi (moA (hwR S ba se) ba se k))]) rfl ?_
                refine gX_iload dX12_restored_76 rfl ?_
                refine gX_iload dX12_restored_78 rfl ?_
                refine gX_iflt (tgt := 87) dX12_restored_80 (by decide) (fun w6 => ?_) (fun w6 => ?_)
                · refine gX_iconst dX12_restored_87 ⟨by decide, by decide⟩ ?_
                  refine gX_iadd dX12_restored_88 ⟨by omega, by omega⟩ ?_
                  refine gX_istore dX12_restored_89 (show (4 : Nat) < 8 from by decide) (ls2 := [some (ga 775), some (gi ba), some (gi se), some (gi i), some (gi (n + 0)), some (gi f), some (gi k), some (gi (moA (hwR S ba se) ba se k))]) rfl ?_
                  refine gX_iinc dX12_restored_91 rfl (show (6 : Nat) < 8 from by decide) ⟨by omega, by omega⟩ (ls2 := [some (ga 775), some (gi ba), some (gi se), some (gi i), some (gi (n + 0)), some (gi f), some (gi (k + 1)), some (gi (moA (hwR S ba se) ba se k))]) rfl ?_
                  refine gX_goto (tgt := 35) dX12_restored_94 (by decide) ?_
                  first
                  | (exfalso; omega)
                  | (have ek : (gbX S ba).length - k.toNat = ((gbX S ba).length - (k + 1).toNat) + 1 := by omega
                     have e1 : rsF (hwR S ba se) ba se ((gbX S ba).length - k.toNat) k o1 = rsF (hwR S ba se) ba se ((gbX S ba).length - (k + 1).toNat) (k + 1) o1 := by
                       rw [ek]
                       show rsF (hwR S ba se) ba se _ _ (if _ then _ else _) = _
                       rw [if_pos (by omega)]
                     rw [e1] at hq2
                     exact ih (k + 1) _ _ _ o1 _ _ (by omega) (by omega) (by omega) (by omega) (by omega) (by omega) hq2)
                · refine gX_iconst dX12_restored_83 ⟨by decide, by decide⟩ ?_
                  refine gX_goto (tgt := 88) dX12_restored_84 (by decide) ?_
                  refine gX_iadd dX12_restored_88 ⟨by omega, by omega⟩ ?_
                  refine gX_istore dX12_restored_89 (show (4 : Nat) < 8 from by decide) (ls2 := [some (ga 775), some (gi ba), some (gi se), some (gi i), some (gi (n + 1)), some (gi f), some (gi k), some (gi (moA (hwR S ba se) ba se k))]) rfl ?_
                  refine gX_iinc dX12_restored_91 rfl (show (6 : Nat) < 8 from by decide) ⟨by omega, by omega⟩ (ls2 := [some (ga 775), some (gi ba), some (gi se), some (gi i), some (gi (n + 1)), some (gi f), some (gi (k + 1)), some (gi (moA (hwR S ba se) ba se k))]) rfl ?_
                  refine gX_goto (tgt := 35) dX12_restored_94 (by decide) ?_
                  first
                  | (exfalso; omega)
                  | (have ek : (gbX S ba).length - k.toNat = ((gbX S ba).length - (k + 1).toNat) + 1 := by omega
                     have e1 : rsF (hwR S ba se) ba se ((gbX S ba).length - k.toNat) k o1 = rsF (hwR S ba se) ba se ((gbX S ba).length - (k + 1).toNat) (k + 1) (o1 ++ [moA (hwR S ba se) ba se k]) := by
                       rw [ek]
                       show rsF (hwR S ba se) ba se _ _ (if _ then _ else _) = _
                       rw [if_neg (by omega), show ladd 160 o1 (moA (hwR S ba se) ba se k) = o1 ++ [moA (hwR S ba se) ba se k] from if_pos (by omega)]
                     rw [e1] at hq2
                     have e2 : lat (o1 ++ [moA (hwR S ba se) ba se k]) i = lat o1 i := lat_app_x (by omega)
                     exact ih (k + 1) _ _ _ (o1 ++ [moA (hwR S ba se) ba se k]) _ _ (by omega) (by omega) (by omega) (by rw [List.length_append]; show n + 1 = ((o1.length + 1 : Nat) : Int); omega) (by rw [e2]; exact q3) (by rw [List.length_append]; show ((o1.length + 1 : Nat) : Int) ≤ k + 1; omega) hq2)
              · refine gX_iload dX12_restored_67 rfl ?_
                refine gX_goto (tgt := 74) dX12_restored_69 (by decide) ?_
                refine gX_istore dX12_restored_74 (show (5 : Nat) < 8 from by decide) (ls2 := [some (ga 775), some (gi ba), some (gi se), some (gi i), some (gi n), some (gi (moA (hwR S ba se) ba se k)), some (gi k), some (gi (moA (hwR S ba se) ba se k))]) rfl ?_
                refine gX_iload dX12_restored_76 rfl ?_
                refine gX_iload dX12_restored_78 rfl ?_
                refine gX_iflt (tgt := 87) dX12_restored_80 (by decide) (fun w7 => ?_) (fun w7 => ?_)
                · refine gX_iconst dX12_restored_87 ⟨by decide, by decide⟩ ?_
                  refine gX_iadd dX12_restored_88 ⟨by omega, by omega⟩ ?_
                  refine gX_istore dX12_restored_89 (show (4 : Nat) < 8 from by decide) (ls2 := [some (ga 775), some (gi ba), some (gi se), some (gi i), some (gi (n + 0)), some (gi (moA (hwR S ba se) ba se k)), some (gi k), some (gi (moA (hwR S ba se) ba se k))]) rfl ?_
                  refine gX_iinc dX12_restored_91 rfl (show (6 : Nat) < 8 from by decide) ⟨by omega, by omega⟩ (ls2 := [some (ga 775), some (gi ba), some (gi se), some (gi i), some (gi (n + 0)), some (gi (moA (hwR S ba se) ba se k)), some (gi (k + 1)), some (gi (moA (hwR S ba se) ba se k))]) rfl ?_
                  refine gX_goto (tgt := 35) dX12_restored_94 (by decide) ?_
                  first
                  | (exfalso; omega)
                  | (have ek : (gbX S ba).length - k.toNat = ((gbX S ba).length - (k + 1).toNat) + 1 := by omega
                     have e1 : rsF (hwR S ba se) ba se ((gbX S ba).length - k.toNat) k o1 = rsF (hwR S ba se) ba se ((gbX S ba).length - (k + 1).toNat) (k + 1) o1 := by
                       rw [ek]
                       show rsF (hwR S ba se) ba se _ _ (if _ then _ else _) = _
                       rw [if_pos (by omega)]
                     rw [e1] at hq2
                     exact ih (k + 1) _ _ _ o1 _ _ (by omega) (by omega) (by omega) (by omega) (by omega) (by omega) hq2)
                · refine gX_iconst dX12_restored_83 ⟨by decide, by decide⟩ ?_
                  refine gX_goto (tgt := 88) dX12_restored_84 (by decide) ?_
                  refine gX_iadd dX12_restored_88 ⟨by omega, by omega⟩ ?_
                  refine gX_istore dX12_restored_89 (show (4 : Nat) < 8 from by decide) (ls2 := [some (ga 775), some (gi ba), some (gi se), some (gi i), some (gi (n + 1)), some (gi (moA (hwR S ba se) ba se k)), some (gi k), some (gi (moA (hwR S ba se) ba se k))]) rfl ?_
                  refine gX_iinc dX12_restored_91 rfl (show (6 : Nat) < 8 from by decide) ⟨by omega, by omega⟩ (ls2 := [some (ga 775), some (gi ba), some (gi se), some (gi i), some (gi (n + 1)), some (gi (moA (hwR S ba se) ba se k)), some (gi (k + 1)), some (gi (moA (hwR S ba se) ba se k))]) rfl ?_
                  refine gX_goto (tgt := 35) dX12_restored_94 (by decide) ?_
                  first
                  | (exfalso; omega)
                  | (have ek : (gbX S ba).length - k.toNat = ((gbX S ba).length - (k + 1).toNat) + 1 := by omega
                     have e1 : rsF (hwR S ba se) ba se ((gbX S ba).length - k.toNat) k o1 = rsF (hwR S ba se) ba se ((gbX S ba).length - (k + 1).toNat) (k + 1) (o1 ++ [moA (hwR S ba se) ba se k]) := by
                       rw [ek]
                       show rsF (hwR S ba se) ba se _ _ (if _ then _ else _) = _
                       rw [if_neg (by omega), show ladd 160 o1 (moA (hwR S ba se) ba se k) = o1 ++ [moA (hwR S ba se) ba se k] from if_pos (by omega)]
                     rw [e1] at hq2
                     have e2 : lat (o1 ++ [moA (hwR S ba se) ba se k]) i = moA (hwR S ba se) ba se k := lat_app_s (by omega)
                     exact ih (k + 1) _ _ _ (o1 ++ [moA (hwR S ba se) ba se k]) _ _ (by omega) (by omega) (by omega) (by rw [List.length_append]; show n + 1 = ((o1.length + 1 : Nat) : Int); omega) (by rw [e2]) (by rw [List.length_append]; show ((o1.length + 1 : Nat) : Int) ≤ k + 1; omega) hq2)
      have ea : aRest S ba se i = lni (rsF (hwR S ba se) ba se (gbX S ba).length 0 []) i := by
        unfold aRest
        rw [if_pos ⟨hr1, (isS_iff hn1 hse).mpr hss⟩]
        rfl
      have hQ2 := hQ V1 hf1.q
      rw [ea] at hQ2
      exact lp ((gbX S ba).length + 1) 0 0 (-1) none [] _ _ (by omega) (by omega) (by omega) rfl (by exact (lat_out (by show ¬ (0 ≤ i ∧ i < ((0 : Nat) : Int)); omega)).symm) (by exact Int.le_refl _) hQ2
    · have m2 := inR_0 m2
      refine gX_sipush dX12_restored_16 (by decide) ⟨by decide, by decide⟩ ?_
      refine gX_iret dX12_restored_19 (Or.inl rfl) ?_
      have ea : aRest S ba se i = -1001 := by
        unfold aRest
        rw [if_neg (by rintro ⟨z1, z2⟩; have z3 := (isS_iff hn1 hse).mp z2; omega)]
      rw [ea] at hQ
      exact hQ V qFr.rf
def grI (V : Int → Int → Int) (g : List Int) : Prop := V 775 62 = g.length ∧ ∀ k : Int, 0 ≤ k → k < g.length → V 817 k = lat g k
def gFq (V V' : Int → Int → Int) : Prop := (∀ a, a ≠ 775 → a ≠ 817 → V' a = V a) ∧ ∀ k, k ≠ 62 → V' 775 k = V 775 k
theorem gFq.trans {V V1 V2 : Int → Int → Int} (h : gFq V V1) (h2 : gFq V1 V2) : gFq V V2 := ⟨fun a h3 h4 => (h2.1 a h3 h4).trans (h.1 a h3 h4), fun k hk => (h2.2 k hk).trans (h.2 k hk)⟩
theorem gFq.q {V V' : Int → Int → Int} (h : gFq V V') : qFr V V' := ⟨fun a ha => h.1 a (by omega) (by omega), h.2 0 (by omega), h.2 16 (by omega), h.2 17 (by omega)⟩
def addM (g : List Int) (x : Int) : List Int := if x ∈ g then g else g ++ [x]
set_option maxRecDepth 4000 in
theorem m_addGroup {g : List Int} {x : Int} (hM : mdK K R) (hg : grI V g) (hl : g.length < 1000) (hQ : ∀ V', grI V' (addM g x) → gFq V V' → Q none (K, R, V')) : gC l E (d + 1) iX12_addGroup [ga 775, gi x] (K, R, V) Q := by
  refine gC_of kX12_addGroup (ls := [some (ga 775), some (gi x), none, none]) rfl (Nat.le_of_ble_eq_true rfl) ?_
  have lp : ∀ (jj : Nat) (k : Int) (t : Int) (bc bs : Nat), (g.length : Int) - k < (jj : Int) → 0 ≤ k → k ≤ g.length → (t = 0 ∨ t = 1) → (t = 1 ↔ x ∈ g.take k.toNat) → gX l E (gFm E (d + 1) iX12_addGroup Q) 4 [some (ga 775), some (gi x), some (gi t), some (gi k)] [] (K, R, V) bc bs := by
    intro jj
    induction jj with
    | zero =>
      intro k t bc bs hj q0 q1 q2 q3
      exfalso; omega
    | succ jj ih =>
      intro k t bc bs hj q0 q1 q2 q3
      refine gX_iloadn dX12_addGroup_4 rfl ?_
      refine gX_aloadn dX12_addGroup_5 rfl ?_
      refine gX_gI 62 dX12_addGroup_6 fdX12_440 rfl (Or.inl rfl) hM.1 ?_
      rw [hg.1]
      refine gX_icmpge (tgt := 38) dX12_addGroup_9 (by decide) (fun w1 => ?_) (fun w1 => ?_)
      · refine gX_iloadn dX12_addGroup_38 rfl ?_
        refine gX_ifne (tgt := 62) dX12_addGroup_39 (by decide) (fun w2 => ?_) (fun w2 => ?_)
        · refine gX_vret dX12_addGroup_62 rfl ?_
          rw [show k.toNat = g.length by omega, List.take_length] at q3
          have ea : addM g x = g := if_pos (q3.mp (by omega))
          rw [ea] at hQ
          exact hQ V hg ⟨fun _ _ _ => rfl, fun _ _ => rfl⟩
        · refine gX_aloadn dX12_addGroup_42 rfl ?_
          refine gX_gR 61 dX12_addGroup_43 fdX12_138 rfl rfl hM.1 (mR61 hM) ?_
          refine gX_aloadn dX12_addGroup_46 rfl ?_
          refine gX_gI 62 dX12_addGroup_47 fdX12_440 rfl (Or.inl rfl) hM.1 ?_
          rw [hg.1]
          refine gX_iloadn dX12_addGroup_50 rfl ?_
          refine gX_iast dX12_addGroup_51 (mA61 hM) (by omega) (by omega) ?_
          refine gX_aloadn dX12_addGroup_52 rfl ?_
          refine gX_dup dX12_addGroup_53 rfl ?_
          refine gX_gI 62 dX12_addGroup_54 fdX12_440 rfl (Or.inl rfl) hM.1 ?_
          rw [show gup V 817 (g.length : Int) x 775 62 = (g.length : Int) by rw [gup_ne (by omega)]; exact hg.1]
          refine gX_iconst dX12_addGroup_57 ⟨by decide, by decide⟩ ?_
          refine gX_iadd dX12_addGroup_58 ⟨by omega, by omega⟩ ?_
          refine gX_pI 62 dX12_addGroup_59 fdX12_440 fpX12_440 rfl (Or.inl rfl) hM.1 ?_
          refine gX_vret dX12_addGroup_62 rfl ?_
          rw [show k.toNat = g.length by omega, List.take_length] at q3
          have ea : addM g x = g ++ [x] := if_neg (fun z => by have := q3.mpr z; omega)
          rw [ea] at hQ
          refine hQ _ ⟨by rw [List.length_append]; show gup _ 775 62 _ 775 62 = ((g.length + 1 : Nat) : Int); rw [show ((g.length + 1 : Nat) : Int) = (g.length : Int) + 1 by omega]; exact gup_s, fun k9 z0 z1 => ?_⟩ ⟨fun a h3 h4 => by rw [gup_ne h3, gup_ne h4], fun k9 hk9 => by rw [gup_k hk9, gup_ne (by omega)]⟩
          rw [List.length_append] at z1
          have z2 : k9 < ((g.length + 1 : Nat) : Int) := z1
          rw [gup_ne (by omega)]
          by_cases e9 : k9 = g.length
          · rw [lat_app_s e9, e9]; exact gup_s
          · rw [gup_k e9, lat_app_l z0 (by omega)]; exact hg.2 k9 z0 (by omega)
      · refine gX_iloadn dX12_addGroup_12 rfl ?_
        refine gX_ifne (tgt := 26) dX12_addGroup_13 (by decide) (fun w3 => ?_) (fun w3 => ?_)
        · refine gX_iconst dX12_addGroup_26 ⟨by decide, by decide⟩ ?_
          refine gX_goto (tgt := 31) dX12_addGroup_27 (by decide) ?_
          refine gX_istoren dX12_addGroup_31 (show (2 : Nat) < 4 from by decide) (ls2 := [some (ga 775), some (gi x), some (gi 1), some (gi k)]) rfl ?_
          refine gX_iinc dX12_addGroup_32 rfl (show (3 : Nat) < 4 from by decide) ⟨by omega, by omega⟩ (ls2 := [some (ga 775), some (gi x), some (gi 1), some (gi (k + 1))]) rfl ?_
          refine gX_goto (tgt := 4) dX12_addGroup_35 (by decide) ?_
          have hlt : k.toNat < g.length := by omega
          have e9 : (k + 1).toNat = k.toNat + 1 := by omega
          refine ih (k + 1) _ _ _ (by omega) (by omega) (by omega) (by omega) ?_
          rw [e9, List.take_succ_eq_append_getElem hlt, List.mem_append, List.mem_singleton, ← q3, ← lat_in (by omega) hlt]
          constructor
          · intro z; first | exact Or.inr (by omega) | exact Or.inl (by omega)
          · intro z; rfl
        · refine gX_aloadn dX12_addGroup_16 rfl ?_
          refine gX_gR 61 dX12_addGroup_17 fdX12_138 rfl rfl hM.1 (mR61 hM) ?_
          refine gX_iloadn dX12_addGroup_20 rfl ?_
          refine gX_iald dX12_addGroup_21 (mA61 hM) (by omega) (by omega) ?_
          rw [hg.2 k (by omega) (by omega)]
          refine gX_iloadn dX12_addGroup_22 rfl ?_
          refine gX_icmpne (tgt := 30) dX12_addGroup_23 (by decide) (fun w4 => ?_) (fun w4 => ?_)
          · refine gX_iconst dX12_addGroup_30 ⟨by decide, by decide⟩ ?_
            refine gX_istoren dX12_addGroup_31 (show (2 : Nat) < 4 from by decide) (ls2 := [some (ga 775), some (gi x), some (gi 0), some (gi k)]) rfl ?_
            refine gX_iinc dX12_addGroup_32 rfl (show (3 : Nat) < 4 from by decide) ⟨by omega, by omega⟩ (ls2 := [some (ga 775), some (gi x), some (gi 0), some (gi (k + 1))]) rfl ?_
            refine gX_goto (tgt := 4) dX12_addGroup_35 (by decide) ?_
            have hlt : k.toNat < g.length := by omega
            have e9 : (k + 1).toNat = k.toNat + 1 := by omega
            refine ih (k + 1) _ _ _ (by omega) (by omega) (by omega) (by omega) ?_
            rw [e9, List.take_succ_eq_append_getElem hlt, List.mem_append, List.mem_singleton, ← q3, ← lat_in (by omega) hlt]
            constructor
            · intro z; omega
            · rintro (z | z)
              · omega
              · exact absurd z.symm (by assumption)
          · refine gX_iconst dX12_addGroup_26 ⟨by decide, by decide⟩ ?_
            refine gX_goto (tgt := 31) dX12_addGroup_27 (by decide) ?_
            refine gX_istoren dX12_addGroup_31 (show (2 : Nat) < 4 from by decide) (ls2 := [some (ga 775), some (gi x), some (gi 1), some (gi k)]) rfl ?_
            refine gX_iinc dX12_addGroup_32 rfl (show (3 : Nat) < 4 from by decide) ⟨by omega, by omega⟩ (ls2 := [some (ga 775), some (gi x), some (gi 1), some (gi (k + 1))]) rfl ?_
            refine gX_goto (tgt := 4) dX12_addGroup_35 (by decide) ?_
            have hlt : k.toNat < g.length := by omega
            have e9 : (k + 1).toNat = k.toNat + 1 := by omega
            refine ih (k + 1) _ _ _ (by omega) (by omega) (by omega) (by omega) ?_
            rw [e9, List.take_succ_eq_append_getElem hlt, List.mem_append, List.mem_singleton, ← q3, ← lat_in (by omega) hlt]
            constructor
            · intro z; first | exact Or.inr (by omega) | exact Or.inl (by omega)
            · intro z; rfl
  refine gX_iconst dX12_addGroup_0 ⟨by decide, by decide⟩ ?_
  refine gX_istoren dX12_addGroup_1 (show (2 : Nat) < 4 from by decide) (ls2 := [some (ga 775), some (gi x), some (gi 0), none]) rfl ?_
  refine gX_iconst dX12_addGroup_2 ⟨by decide, by decide⟩ ?_
  refine gX_istoren dX12_addGroup_3 (show (3 : Nat) < 4 from by decide) (ls2 := [some (ga 775), some (gi x), some (gi 0), some (gi 0)]) rfl ?_
  exact lp (g.length + 1) 0 0 _ _ (by omega) (by omega) (by omega) (Or.inl rfl) ⟨fun z => by omega, fun z => absurd z (by simp)⟩
end MD5
