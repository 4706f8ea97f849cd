/-! The reference: reading the told bytes. Written by wip/whole/tools/mk_md14.py. -/
theorem tdIs.at {V : Int → Int → Int} {ys : List Int} (h : tdIs V ys) {i : Int} (h0 : 0 ≤ i) (h1 : i < ys.length) : V 790 i = lat ys i := by
  have h2 := h.2.2 i.toNat ys[i.toNat] (List.getElem?_eq_getElem (by omega))
  rw [Int.toNat_of_nonneg h0] at h2
  rw [h2, lat_in h0 (by omega)]
/-- only where the reading stands has changed -/
def rdR (V V' : Int → Int → Int) : Prop := (∀ a, a ≠ 775 → V' a = V a) ∧ ∀ k, k ≠ 17 → k ≠ 18 → k ≠ 19 → k ≠ 20 → V' 775 k = V 775 k
theorem rdR.rf {V : Int → Int → Int} : rdR V V := ⟨fun _ _ => rfl, fun _ _ _ _ _ => rfl⟩
theorem rdR.trans {V V1 V2 : Int → Int → Int} (h : rdR V V1) (h2 : rdR V1 V2) : rdR V V2 := ⟨fun a ha => (h2.1 a ha).trans (h.1 a ha), fun k h3 h4 h5 h6 => (h2.2 k h3 h4 h5 h6).trans (h.2 k h3 h4 h5 h6)⟩
theorem rdR.up {V V1 : Int → Int → Int} (h : rdR V V1) {k x : Int} (hk : 17 ≤ k ∧ k ≤ 20) : rdR V (gup V1 775 k x) := ⟨fun a ha => by rw [gup_ne ha]; exact h.1 a ha, fun k' h3 h4 h5 h6 => by rw [gup_k (by omega)]; exact h.2 k' h3 h4 h5 h6⟩
theorem tdIs.rd {V V' : Int → Int → Int} {ys : List Int} (h : tdIs V ys) (hf : rdR V V') : tdIs V' ys := ⟨by rw [hf.2 16 (by omega) (by omega) (by omega) (by omega)]; exact h.1, h.2.1, fun j x hj => by rw [hf.1 790 (by omega)]; exact h.2.2 j x hj⟩
section MD14
variable {l : Launch} {E : gE} {d : Nat} {K : List gK} {R V : Int → Int → Int} {a f w low high : Int} {Q : gQ} {ys : List Int} {t : tS}
set_option maxRecDepth 4000 in
theorem m_here {a0 : Int} (hM : mdK K R) (ht : tdIs V ys) (ha : V 775 18 = a0) (h0 : 0 ≤ a0) (h1 : a0 ≤ ys.length) (hQ : ∀ V', V' 775 18 = pkB ys a0 → ((∀ a, a ≠ 775 → V' a = V a) ∧ ∀ k, k ≠ 18 → V' 775 k = V 775 k) → Q (some (gi (lat ys (pkB ys a0)))) (K, R, V')) : gC l E (d + 1) iX12_here [ga 775] (K, R, V) Q := by
  refine gC_of kX12_here (ls := [some (ga 775)]) rfl (Nat.le_of_ble_eq_true rfl) ?_
  have hyl := ht.2.1
  have lp : ∀ (jj : Nat) (a : Int) (n : Nat) (V1 : Int → Int → Int) (bc bs : Nat), (ys.length : Int) - a < (jj : Int) → 0 ≤ a → a ≤ ys.length → V1 775 18 = a → ((∀ a, a ≠ 775 → V1 a = V a) ∧ ∀ k, k ≠ 18 → V1 775 k = V 775 k) → pkF ys n a = pkB ys a0 → (ys.length : Int) - a < n → gX l E (gFm E (d + 1) iX12_here Q) 0 [some (ga 775)] [] (K, R, V1) bc bs := by
    intro jj
    induction jj with
    | zero =>
      intro a n V1 bc bs hj q0 q1 ha1 hf1 hp1 hn1
      exfalso; omega
    | succ jj ih =>
      intro a n V1 bc bs hj q0 q1 ha1 hf1 hp1 hn1
      refine gX_aloadn dX12_here_0 rfl ?_
      refine gX_gI 18 dX12_here_1 fdX12_167 rfl (Or.inl rfl) hM.1 ?_
      rw [ha1]
      refine gX_aloadn dX12_here_4 rfl ?_
      refine gX_gI 16 dX12_here_5 fdX12_162 rfl (Or.inl rfl) hM.1 ?_
      rw [show V1 775 16 = (ys.length : Int) by rw [hf1.2 16 (by omega)]; exact ht.1]
      refine gX_icmpge (tgt := 38) dX12_here_8 (by decide) (fun w1 => ?_) (fun w1 => ?_)
      · refine gX_aloadn dX12_here_38 rfl ?_
        refine gX_gI 18 dX12_here_39 fdX12_167 rfl (Or.inl rfl) hM.1 ?_
        rw [ha1]
        refine gX_aloadn dX12_here_42 rfl ?_
        refine gX_gI 16 dX12_here_43 fdX12_162 rfl (Or.inl rfl) hM.1 ?_
        rw [show V1 775 16 = (ys.length : Int) by rw [hf1.2 16 (by omega)]; exact ht.1]
        refine gX_icmpge (tgt := 61) dX12_here_46 (by decide) (fun w2 => ?_) (fun w2 => ?_)
        · refine gX_iconst dX12_here_61 ⟨by decide, by decide⟩ ?_
          refine gX_iret dX12_here_62 (Or.inl rfl) ?_
          obtain ⟨n9, rfl⟩ : ∃ n9, n = n9 + 1 := ⟨n - 1, by omega⟩
          have e1 : pkF ys (n9 + 1) a = a := by
            show (if _ then _ else _) = _
            rw [if_neg (by omega)]
          rw [e1] at hp1
          have ez : lat ys a = -1 := lat_out (by omega)
          rw [← ez]
          rw [hp1]
          exact hQ V1 (by rw [ha1]; exact hp1) hf1
        · refine gX_aloadn dX12_here_49 rfl ?_
          refine gX_gR 15 dX12_here_50 fdX12_52 rfl rfl hM.1 (mR15 hM) ?_
          refine gX_aloadn dX12_here_53 rfl ?_
          refine gX_gI 18 dX12_here_54 fdX12_167 rfl (Or.inl rfl) hM.1 ?_
          rw [ha1]
          refine gX_iald dX12_here_57 (mA15 hM) (by omega) (by omega) ?_
          rw [show V1 790 a = lat ys a by rw [hf1.1 790 (by omega)]; exact ht.at (by omega) (by omega)]
          refine gX_goto (tgt := 62) dX12_here_58 (by decide) ?_
          refine gX_iret dX12_here_62 (Or.inl rfl) ?_
          obtain ⟨n9, rfl⟩ : ∃ n9, n = n9 + 1 := ⟨n - 1, by omega⟩
          have e1 : pkF ys (n9 + 1) a = a := by
            show (if _ then _ else _) = _
            rw [if_neg (by omega)]
          rw [e1] at hp1
          have ez : lat ys a = lat ys a := rfl
          skip
          rw [hp1]
          exact hQ V1 (by rw [ha1]; exact hp1) hf1
      · refine gX_aloadn dX12_here_11 rfl ?_
        refine gX_gR 15 dX12_here_12 fdX12_52 rfl rfl hM.1 (mR15 hM) ?_
        refine gX_aloadn dX12_here_15 rfl ?_
        refine gX_gI 18 dX12_here_16 fdX12_167 rfl (Or.inl rfl) hM.1 ?_
        rw [ha1]
        refine gX_iald dX12_here_19 (mA15 hM) (by omega) (by omega) ?_
        rw [show V1 790 a = lat ys a by rw [hf1.1 790 (by omega)]; exact ht.at (by omega) (by omega)]
        refine gX_bipush dX12_here_20 (by decide) ⟨by decide, by decide⟩ ?_
        refine gX_icmpne (tgt := 38) dX12_here_22 (by decide) (fun w3 => ?_) (fun w3 => ?_)
        · refine gX_aloadn dX12_here_38 rfl ?_
          refine gX_gI 18 dX12_here_39 fdX12_167 rfl (Or.inl rfl) hM.1 ?_
          rw [ha1]
          refine gX_aloadn dX12_here_42 rfl ?_
          refine gX_gI 16 dX12_here_43 fdX12_162 rfl (Or.inl rfl) hM.1 ?_
          rw [show V1 775 16 = (ys.length : Int) by rw [hf1.2 16 (by omega)]; exact ht.1]
          refine gX_icmpge (tgt := 61) dX12_here_46 (by decide) (fun w4 => ?_) (fun w4 => ?_)
          · refine gX_iconst dX12_here_61 ⟨by decide, by decide⟩ ?_
            refine gX_iret dX12_here_62 (Or.inl rfl) ?_
            obtain ⟨n9, rfl⟩ : ∃ n9, n = n9 + 1 := ⟨n - 1, by omega⟩
            have e1 : pkF ys (n9 + 1) a = a := by
              show (if _ then _ else _) = _
              rw [if_neg (by omega)]
            rw [e1] at hp1
            have ez : lat ys a = -1 := lat_out (by omega)
            rw [← ez]
            rw [hp1]
            exact hQ V1 (by rw [ha1]; exact hp1) hf1
          · refine gX_aloadn dX12_here_49 rfl ?_
            refine gX_gR 15 dX12_here_50 fdX12_52 rfl rfl hM.1 (mR15 hM) ?_
            refine gX_aloadn dX12_here_53 rfl ?_
            refine gX_gI 18 dX12_here_54 fdX12_167 rfl (Or.inl rfl) hM.1 ?_
            rw [ha1]
            refine gX_iald dX12_here_57 (mA15 hM) (by omega) (by omega) ?_
            rw [show V1 790 a = lat ys a by rw [hf1.1 790 (by omega)]; exact ht.at (by omega) (by omega)]
            refine gX_goto (tgt := 62) dX12_here_58 (by decide) ?_
            refine gX_iret dX12_here_62 (Or.inl rfl) ?_
            obtain ⟨n9, rfl⟩ : ∃ n9, n = n9 + 1 := ⟨n - 1, by omega⟩
            have e1 : pkF ys (n9 + 1) a = a := by
              show (if _ then _ else _) = _
              rw [if_neg (by omega)]
            rw [e1] at hp1
            have ez : lat ys a = lat ys a := rfl
            skip
            rw [hp1]
            exact hQ V1 (by rw [ha1]; exact hp1) hf1
        · refine gX_aloadn dX12_here_25 rfl ?_
          refine gX_dup dX12_here_26 rfl ?_
          refine gX_gI 18 dX12_here_27 fdX12_167 rfl (Or.inl rfl) hM.1 ?_
          rw [ha1]
          refine gX_iconst dX12_here_30 ⟨by decide, by decide⟩ ?_
          refine gX_iadd dX12_here_31 ⟨by omega, by omega⟩ ?_
          refine gX_pI 18 dX12_here_32 fdX12_167 fpX12_167 rfl (Or.inl rfl) hM.1 ?_
          refine gX_goto (tgt := 0) dX12_here_35 (by decide) ?_
          obtain ⟨n9, rfl⟩ : ∃ n9, n = n9 + 1 := ⟨n - 1, by omega⟩
          have e1 : pkF ys (n9 + 1) a = pkF ys n9 (a + 1) := by
            show (if _ then _ else _) = _
            rw [if_pos ⟨by omega, by omega⟩]
          rw [e1] at hp1
          exact ih (a + 1) n9 _ _ _ (by omega) (by omega) (by omega) gup_s ⟨fun x hx => by rw [gup_ne hx]; exact hf1.1 x hx, fun k hk => by rw [gup_k hk]; exact hf1.2 k hk⟩ hp1 (by omega)
  exact lp (ys.length + 1) a0 321 V _ _ (by omega) h0 h1 ha ⟨fun _ _ => rfl, fun _ _ => rfl⟩ rfl (by omega)
set_option maxRecDepth 4000 in
theorem m_fails (hM : mdK K R) (hQ : Q (some (gi f)) (K, R, gup V 775 17 w)) : gC l E (d + 1) iX12_fails [ga 775, gi f, gi w] (K, R, V) Q := by
  refine gC_of kX12_fails (ls := [some (ga 775), some (gi f), some (gi w)]) rfl (Nat.le_of_ble_eq_true rfl) ?_
  refine gX_aloadn dX12_fails_0 rfl ?_
  refine gX_iloadn dX12_fails_1 rfl ?_
  refine gX_pI 17 dX12_fails_2 fdX12_55 fpX12_55 rfl (Or.inl rfl) hM.1 ?_
  refine gX_iloadn dX12_fails_5 rfl ?_
  refine gX_iret dX12_fails_6 (Or.inl rfl) ?_
  exact hQ
set_option maxRecDepth 4000 in
theorem m_takeNumber (hM : mdK K R) (ht : tdIs V ys) (ha : V 775 18 = t.1) (h0 : 0 ≤ t.1) (h1 : t.1 ≤ ys.length) (hz : t.2.2.1 = 0 ∧ t.2.2.2 = -1 ∧ V 775 17 = -1) (hQ : ∀ V', V' 775 18 = (tkNum ys low high t).2.1 → V' 775 17 = (tkNum ys low high t).2.2.2.2 → ((tkNum ys low high t).2.2.2.1 = 0 → V' 775 19 = (tkNum ys low high t).1 ∧ V' 775 20 = (tkNum ys low high t).2.2.1) → rdR V V' → Q (some (gi (tkNum ys low high t).2.2.2.1)) (K, R, V')) : gC l E (d + 2) iX12_takeNumber [ga 775, gi low, gi high] (K, R, V) Q := by
  refine gC_of kX12_takeNumber (ls := [some (ga 775), some (gi low), some (gi high), none]) rfl (Nat.le_of_ble_eq_true rfl) ?_
  have hyl := ht.2.1
  have hpk := pkB_in (ys := ys) h0 h1
  refine gX_aloadn dX12_takeNumber_0 rfl ?_
  refine gX_virt (J := iX12_here) (av := []) (a := 775) (st := []) dX12_takeNumber_1 lkX12_170 kX12_here vX12_here (gFit_m (by decide)) hM.1 rfl rfl (Nat.le_of_ble_eq_true rfl) (Nat.zero_le _) (Nat.zero_le _) rfl ?_
  refine m_here hM ht ha h0 h1 (fun Va ha1 hf0 => ?_)
  show gX l E _ 4 [some (ga 775), some (gi low), some (gi high), none] [gi (lat ys (pkB ys t.1))] (K, R, Va) _ _
  have hfa : rdR V Va := ⟨hf0.1, fun k h3 h4 h5 h6 => hf0.2 k h4⟩
  refine gX_istoren dX12_takeNumber_4 (show (3 : Nat) < 4 from by decide) (ls2 := [some (ga 775), some (gi low), some (gi high), some (gi (lat ys (pkB ys t.1)))]) rfl ?_
  refine gX_iloadn dX12_takeNumber_5 rfl ?_
  refine gX_i2l dX12_takeNumber_6 ?_
  refine gX_ldc2 (x := 48) dX12_takeNumber_7 clX12_174 (by decide) ⟨by decide, by decide⟩ ?_
  refine gX_ldc2 (x := 57) dX12_takeNumber_10 clX12_176 (by decide) ⟨by decide, by decide⟩ ?_
  refine gX_stat (J := iX12_in) (av := [gl (lat ys (pkB ys t.1)), gl 48, gl 57]) (st := []) dX12_takeNumber_13 lkX12_154 kX12_in sX12_in (gFit_m (by decide)) rfl (Nat.le_of_ble_eq_true rfl) (Nat.zero_le _) (Nat.zero_le _) rfl ?_
  refine m_in ?_
  show gX l E _ 16 [some (ga 775), some (gi low), some (gi high), some (gi (lat ys (pkB ys t.1)))] [gi (b2i (inR (lat ys (pkB ys t.1)) 48 57))] (K, R, Va) _ _
  refine gX_ifne (tgt := 29) dX12_takeNumber_16 (by decide) (fun m1 => ?_) (fun m1 => ?_)
  · have m1 := inR_1 m1
    refine gX_aloadn dX12_takeNumber_29 rfl ?_
    refine gX_aloadn dX12_takeNumber_30 rfl ?_
    refine gX_gI 18 dX12_takeNumber_31 fdX12_167 rfl (Or.inl rfl) hM.1 ?_
    rw [ha1]
    refine gX_pI 20 dX12_takeNumber_34 fdX12_182 fpX12_182 rfl (Or.inl rfl) hM.1 ?_
    refine gX_aloadn dX12_takeNumber_37 rfl ?_
    refine gX_iconst dX12_takeNumber_38 ⟨by decide, by decide⟩ ?_
    refine gX_pI 19 dX12_takeNumber_39 fdX12_185 fpX12_185 rfl (Or.inl rfl) hM.1 ?_
    have hF : isF (lat ys (pkB ys t.1)) = true := by unfold isF; rw [decide_eq_true_eq]; omega
    have ht2 : tdIs Va ys := ht.rd hfa
    have lp : ∀ (jj : Nat) (a : Int) (n : Nat) (v : Int) (nv : Int) (V1 : Int → Int → Int) (bc bs : Nat), (ys.length : Int) - a < (jj : Int) → (pkB ys t.1) ≤ a → a ≤ ys.length → V1 775 18 = a → V1 775 20 = (pkB ys t.1) → V1 775 19 = nv → 0 ≤ nv ∧ nv ≤ 10009 → (a - (pkB ys t.1) ≤ 2 → nv = v) → fiF ys (pkB ys t.1) n a v = (fiF ys (pkB ys t.1) 321 (pkB ys t.1) 0) → (ys.length : Int) - a < n → V1 775 17 = -1 → rdR V V1 → (a - (pkB ys t.1) ≤ 0 → nv = 0) → (a - (pkB ys t.1) ≤ 1 → nv ≤ 9) → gX l E (gFm E (d + 2) iX12_takeNumber Q) 42 [some (ga 775), some (gi low), some (gi high), some (gi (lat ys (pkB ys t.1)))] [] (K, R, V1) bc bs := by
      intro jj
      induction jj with
      | zero =>
        intro a n v nv V1 bc bs hj q0 q1 ha1 hb1 hv1 hnb hnv hp1 hn1 hp17 hf1 hz0 hz1
        exfalso; omega
      | succ jj ih =>
        intro a n v nv V1 bc bs hj q0 q1 ha1 hb1 hv1 hnb hnv hp1 hn1 hp17 hf1 hz0 hz1
        refine gX_aloadn dX12_takeNumber_42 rfl ?_
        refine gX_gI 18 dX12_takeNumber_43 fdX12_167 rfl (Or.inl rfl) hM.1 ?_
        rw [ha1]
        refine gX_aloadn dX12_takeNumber_46 rfl ?_
        refine gX_gI 16 dX12_takeNumber_47 fdX12_162 rfl (Or.inl rfl) hM.1 ?_
        rw [show V1 775 16 = (ys.length : Int) by rw [hf1.2 16 (by omega) (by omega) (by omega) (by omega)]; exact ht.1]
        refine gX_icmpge (tgt := 129) dX12_takeNumber_50 (by decide) (fun w1 => ?_) (fun w1 => ?_)
        · refine gX_aloadn dX12_takeNumber_129 rfl ?_
          refine gX_gI 18 dX12_takeNumber_130 fdX12_167 rfl (Or.inl rfl) hM.1 ?_
          rw [ha1]
          refine gX_aloadn dX12_takeNumber_133 rfl ?_
          refine gX_gI 20 dX12_takeNumber_134 fdX12_182 rfl (Or.inl rfl) hM.1 ?_
          rw [hb1]
          refine gX_isub dX12_takeNumber_137 ⟨by omega, by omega⟩ ?_
          refine gX_iconst dX12_takeNumber_138 ⟨by decide, by decide⟩ ?_
          refine gX_icmpgt (tgt := 157) dX12_takeNumber_139 (by decide) (fun w2 => ?_) (fun w2 => ?_)
          · refine gX_aloadn dX12_takeNumber_157 rfl ?_
            refine gX_iconst dX12_takeNumber_158 ⟨by decide, by decide⟩ ?_
            refine gX_aloadn dX12_takeNumber_159 rfl ?_
            refine gX_gI 20 dX12_takeNumber_160 fdX12_182 rfl (Or.inl rfl) hM.1 ?_
            rw [hb1]
            refine gX_virt (J := iX12_fails) (av := [gi 2, gi (pkB ys t.1)]) (a := 775) (st := []) dX12_takeNumber_163 lkX12_178 kX12_fails vX12_fails (gFit_m (by decide)) hM.1 rfl rfl (Nat.le_of_ble_eq_true rfl) (Nat.zero_le _) (Nat.zero_le _) rfl ?_
            refine m_fails hM ?_
            show gX l E _ 166 [some (ga 775), some (gi low), some (gi high), some (gi (lat ys (pkB ys t.1)))] [gi 2] (K, R, gup V1 775 17 (pkB ys t.1)) _ _
            refine gX_goto (tgt := 170) dX12_takeNumber_166 (by decide) ?_
            refine gX_iret dX12_takeNumber_170 (Or.inl rfl) ?_
            obtain ⟨n9, rfl⟩ : ∃ n9, n = n9 + 1 := ⟨n - 1, by omega⟩
            have hnF : ¬ (a < ys.length ∧ isF (lat ys a) = true) := by
              rintro ⟨z1, z2⟩
              unfold isF at z2
              rw [decide_eq_true_eq] at z2
              omega
            have e1 : fiF ys (pkB ys t.1) (n9 + 1) a v = (a, v) := by
              show (if _ then _ else _) = _
              rw [if_neg hnF]
            rw [e1] at hp1
            have hnu : nuB low high (pkB ys t.1) (fiF ys (pkB ys t.1) 321 (pkB ys t.1) 0) = true := by
              rw [← hp1]
              unfold nuB
              rw [decide_eq_true_eq]
              by_cases c9 : a - (pkB ys t.1) > 2
              · exact Or.inl c9
              · have := hnv (by omega)
                refine Or.inr ?_
                show v < low ∨ v > high
                omega
            have eu : (tkNum ys low high t) = (-1, (fiF ys (pkB ys t.1) 321 (pkB ys t.1) 0).1, (pkB ys t.1), 2, (pkB ys t.1)) := by unfold tkNum; rw [if_pos hF, if_pos hnu]
            rw [eu] at hQ
            exact hQ _ (by rw [gup_k (by omega), ha1, ← hp1]) gup_s (fun z => by have z9 : (2 : Int) = 0 := z; omega) (hf1.up (by omega))
          · refine gX_aloadn dX12_takeNumber_142 rfl ?_
            refine gX_gI 19 dX12_takeNumber_143 fdX12_185 rfl (Or.inl rfl) hM.1 ?_
            rw [hv1]
            refine gX_i2l dX12_takeNumber_146 ?_
            refine gX_iloadn dX12_takeNumber_147 rfl ?_
            refine gX_i2l dX12_takeNumber_148 ?_
            refine gX_iloadn dX12_takeNumber_149 rfl ?_
            refine gX_i2l dX12_takeNumber_150 ?_
            refine gX_stat (J := iX12_in) (av := [gl nv, gl low, gl high]) (st := []) dX12_takeNumber_151 lkX12_154 kX12_in sX12_in (gFit_m (by decide)) rfl (Nat.le_of_ble_eq_true rfl) (Nat.zero_le _) (Nat.zero_le _) rfl ?_
            refine m_in ?_
            show gX l E _ 154 [some (ga 775), some (gi low), some (gi high), some (gi (lat ys (pkB ys t.1)))] [gi (b2i (inR nv low high))] (K, R, V1) _ _
            refine gX_ifne (tgt := 169) dX12_takeNumber_154 (by decide) (fun w3 => ?_) (fun w3 => ?_)
            · have w3 := inR_1 w3
              refine gX_iconst dX12_takeNumber_169 ⟨by decide, by decide⟩ ?_
              refine gX_iret dX12_takeNumber_170 (Or.inl rfl) ?_
              obtain ⟨n9, rfl⟩ : ∃ n9, n = n9 + 1 := ⟨n - 1, by omega⟩
              have hnF : ¬ (a < ys.length ∧ isF (lat ys a) = true) := by
                rintro ⟨z1, z2⟩
                unfold isF at z2
                rw [decide_eq_true_eq] at z2
                omega
              have e1 : fiF ys (pkB ys t.1) (n9 + 1) a v = (a, v) := by
                show (if _ then _ else _) = _
                rw [if_neg hnF]
              rw [e1] at hp1
              have hnu : ¬ nuB low high (pkB ys t.1) (fiF ys (pkB ys t.1) 321 (pkB ys t.1) 0) = true := by
                rw [← hp1]
                unfold nuB
                rw [decide_eq_true_eq]
                have := hnv (by omega)
                show ¬ (a - (pkB ys t.1) > 2 ∨ v < low ∨ v > high)
                omega
              have eu : (tkNum ys low high t) = ((fiF ys (pkB ys t.1) 321 (pkB ys t.1) 0).2, (fiF ys (pkB ys t.1) 321 (pkB ys t.1) 0).1, (pkB ys t.1), t.2.2.1, t.2.2.2) := by unfold tkNum; rw [if_pos hF, if_neg hnu]
              rw [eu, hz.1, hz.2.1] at hQ
              have := hnv (by omega)
              exact hQ V1 (by rw [ha1, ← hp1]) hp17 (fun _ => ⟨by rw [hv1, ← hp1]; omega, hb1⟩) hf1
            · have w3 := inR_0 w3
              refine gX_aloadn dX12_takeNumber_157 rfl ?_
              refine gX_iconst dX12_takeNumber_158 ⟨by decide, by decide⟩ ?_
              refine gX_aloadn dX12_takeNumber_159 rfl ?_
              refine gX_gI 20 dX12_takeNumber_160 fdX12_182 rfl (Or.inl rfl) hM.1 ?_
              rw [hb1]
              refine gX_virt (J := iX12_fails) (av := [gi 2, gi (pkB ys t.1)]) (a := 775) (st := []) dX12_takeNumber_163 lkX12_178 kX12_fails vX12_fails (gFit_m (by decide)) hM.1 rfl rfl (Nat.le_of_ble_eq_true rfl) (Nat.zero_le _) (Nat.zero_le _) rfl ?_
              refine m_fails hM ?_
              show gX l E _ 166 [some (ga 775), some (gi low), some (gi high), some (gi (lat ys (pkB ys t.1)))] [gi 2] (K, R, gup V1 775 17 (pkB ys t.1)) _ _
              refine gX_goto (tgt := 170) dX12_takeNumber_166 (by decide) ?_
              refine gX_iret dX12_takeNumber_170 (Or.inl rfl) ?_
              obtain ⟨n9, rfl⟩ : ∃ n9, n = n9 + 1 := ⟨n - 1, by omega⟩
              have hnF : ¬ (a < ys.length ∧ isF (lat ys a) = true) := by
                rintro ⟨z1, z2⟩
                unfold isF at z2
                rw [decide_eq_true_eq] at z2
                omega
              have e1 : fiF ys (pkB ys t.1) (n9 + 1) a v = (a, v) := by
                show (if _ then _ else _) = _
                rw [if_neg hnF]
              rw [e1] at hp1
              have hnu : nuB low high (pkB ys t.1) (fiF ys (pkB ys t.1) 321 (pkB ys t.1) 0) = true := by
                rw [← hp1]
                unfold nuB
                rw [decide_eq_true_eq]
                by_cases c9 : a - (pkB ys t.1) > 2
                · exact Or.inl c9
                · have := hnv (by omega)
                  refine Or.inr ?_
                  show v < low ∨ v > high
                  omega
              have eu : (tkNum ys low high t) = (-1, (fiF ys (pkB ys t.1) 321 (pkB ys t.1) 0).1, (pkB ys t.1), 2, (pkB ys t.1)) := by unfold tkNum; rw [if_pos hF, if_pos hnu]
              rw [eu] at hQ
              exact hQ _ (by rw [gup_k (by omega), ha1, ← hp1]) gup_s (fun z => by have z9 : (2 : Int) = 0 := z; omega) (hf1.up (by omega))
        · refine gX_aloadn dX12_takeNumber_53 rfl ?_
          refine gX_gR 15 dX12_takeNumber_54 fdX12_52 rfl rfl hM.1 (mR15 hM) ?_
          refine gX_aloadn dX12_takeNumber_57 rfl ?_
          refine gX_gI 18 dX12_takeNumber_58 fdX12_167 rfl (Or.inl rfl) hM.1 ?_
          rw [ha1]
          refine gX_iald dX12_takeNumber_61 (mA15 hM) (by omega) (by omega) ?_
          rw [show V1 790 a = lat ys a by rw [hf1.1 790 (by omega)]; exact ht.at (by omega) (by omega)]
          refine gX_i2l dX12_takeNumber_62 ?_
          refine gX_ldc2 (x := 48) dX12_takeNumber_63 clX12_174 (by decide) ⟨by decide, by decide⟩ ?_
          refine gX_ldc2 (x := 57) dX12_takeNumber_66 clX12_176 (by decide) ⟨by decide, by decide⟩ ?_
          refine gX_stat (J := iX12_in) (av := [gl (lat ys a), gl 48, gl 57]) (st := []) dX12_takeNumber_69 lkX12_154 kX12_in sX12_in (gFit_m (by decide)) rfl (Nat.le_of_ble_eq_true rfl) (Nat.zero_le _) (Nat.zero_le _) rfl ?_
          refine m_in ?_
          show gX l E _ 72 [some (ga 775), some (gi low), some (gi high), some (gi (lat ys (pkB ys t.1)))] [gi (b2i (inR (lat ys a) 48 57))] (K, R, V1) _ _
          refine gX_ifeq (tgt := 129) dX12_takeNumber_72 (by decide) (fun w4 => ?_) (fun w4 => ?_)
          · have w4 := inR_0 w4
            refine gX_aloadn dX12_takeNumber_129 rfl ?_
            refine gX_gI 18 dX12_takeNumber_130 fdX12_167 rfl (Or.inl rfl) hM.1 ?_
            rw [ha1]
            refine gX_aloadn dX12_takeNumber_133 rfl ?_
            refine gX_gI 20 dX12_takeNumber_134 fdX12_182 rfl (Or.inl rfl) hM.1 ?_
            rw [hb1]
            refine gX_isub dX12_takeNumber_137 ⟨by omega, by omega⟩ ?_
            refine gX_iconst dX12_takeNumber_138 ⟨by decide, by decide⟩ ?_
            refine gX_icmpgt (tgt := 157) dX12_takeNumber_139 (by decide) (fun w5 => ?_) (fun w5 => ?_)
            · refine gX_aloadn dX12_takeNumber_157 rfl ?_
              refine gX_iconst dX12_takeNumber_158 ⟨by decide, by decide⟩ ?_
              refine gX_aloadn dX12_takeNumber_159 rfl ?_
              refine gX_gI 20 dX12_takeNumber_160 fdX12_182 rfl (Or.inl rfl) hM.1 ?_
              rw [hb1]
              refine gX_virt (J := iX12_fails) (av := [gi 2, gi (pkB ys t.1)]) (a := 775) (st := []) dX12_takeNumber_163 lkX12_178 kX12_fails vX12_fails (gFit_m (by decide)) hM.1 rfl rfl (Nat.le_of_ble_eq_true rfl) (Nat.zero_le _) (Nat.zero_le _) rfl ?_
              refine m_fails hM ?_
              show gX l E _ 166 [some (ga 775), some (gi low), some (gi high), some (gi (lat ys (pkB ys t.1)))] [gi 2] (K, R, gup V1 775 17 (pkB ys t.1)) _ _
              refine gX_goto (tgt := 170) dX12_takeNumber_166 (by decide) ?_
              refine gX_iret dX12_takeNumber_170 (Or.inl rfl) ?_
              obtain ⟨n9, rfl⟩ : ∃ n9, n = n9 + 1 := ⟨n - 1, by omega⟩
              have hnF : ¬ (a < ys.length ∧ isF (lat ys a) = true) := by
                rintro ⟨z1, z2⟩
                unfold isF at z2
                rw [decide_eq_true_eq] at z2
                omega
              have e1 : fiF ys (pkB ys t.1) (n9 + 1) a v = (a, v) := by
                show (if _ then _ else _) = _
                rw [if_neg hnF]
              rw [e1] at hp1
              have hnu : nuB low high (pkB ys t.1) (fiF ys (pkB ys t.1) 321 (pkB ys t.1) 0) = true := by
                rw [← hp1]
                unfold nuB
                rw [decide_eq_true_eq]
                by_cases c9 : a - (pkB ys t.1) > 2
                · exact Or.inl c9
                · have := hnv (by omega)
                  refine Or.inr ?_
                  show v < low ∨ v > high
                  omega
              have eu : (tkNum ys low high t) = (-1, (fiF ys (pkB ys t.1) 321 (pkB ys t.1) 0).1, (pkB ys t.1), 2, (pkB ys t.1)) := by unfold tkNum; rw [if_pos hF, if_pos hnu]
              rw [eu] at hQ
              exact hQ _ (by rw [gup_k (by omega), ha1, ← hp1]) gup_s (fun z => by have z9 : (2 : Int) = 0 := z; omega) (hf1.up (by omega))
            · refine gX_aloadn dX12_takeNumber_142 rfl ?_
              refine gX_gI 19 dX12_takeNumber_143 fdX12_185 rfl (Or.inl rfl) hM.1 ?_
              rw [hv1]
              refine gX_i2l dX12_takeNumber_146 ?_
              refine gX_iloadn dX12_takeNumber_147 rfl ?_
              refine gX_i2l dX12_takeNumber_148 ?_
              refine gX_iloadn dX12_takeNumber_149 rfl ?_
              refine gX_i2l dX12_takeNumber_150 ?_
              refine gX_stat (J := iX12_in) (av := [gl nv, gl low, gl high]) (st := []) dX12_takeNumber_151 lkX12_154 kX12_in sX12_in (gFit_m (by decide)) rfl (Nat.le_of_ble_eq_true rfl) (Nat.zero_le _) (Nat.zero_le _) rfl ?_
              refine m_in ?_
              show gX l E _ 154 [some (ga 775), some (gi low), some (gi high), some (gi (lat ys (pkB ys t.1)))] [gi (b2i (inR nv low high))] (K, R, V1) _ _
              refine gX_ifne (tgt := 169) dX12_takeNumber_154 (by decide) (fun w6 => ?_) (fun w6 => ?_)
              · have w6 := inR_1 w6
                refine gX_iconst dX12_takeNumber_169 ⟨by decide, by decide⟩ ?_
                refine gX_iret dX12_takeNumber_170 (Or.inl rfl) ?_
                obtain ⟨n9, rfl⟩ : ∃ n9, n = n9 + 1 := ⟨n - 1, by omega⟩
                have hnF : ¬ (a < ys.length ∧ isF (lat ys a) = true) := by
                  rintro ⟨z1, z2⟩
                  unfold isF at z2
                  rw [decide_eq_true_eq] at z2
                  omega
                have e1 : fiF ys (pkB ys t.1) (n9 + 1) a v = (a, v) := by
                  show (if _ then _ else _) = _
                  rw [if_neg hnF]
                rw [e1] at hp1
                have hnu : ¬ nuB low high (pkB ys t.1) (fiF ys (pkB ys t.1) 321 (pkB ys t.1) 0) = true := by
                  rw [← hp1]
                  unfold nuB
                  rw [decide_eq_true_eq]
                  have := hnv (by omega)
                  show ¬ (a - (pkB ys t.1) > 2 ∨ v < low ∨ v > high)
                  omega
                have eu : (tkNum ys low high t) = ((fiF ys (pkB ys t.1) 321 (pkB ys t.1) 0).2, (fiF ys (pkB ys t.1) 321 (pkB ys t.1) 0).1, (pkB ys t.1), t.2.2.1, t.2.2.2) := by unfold tkNum; rw [if_pos hF, if_neg hnu]
                rw [eu, hz.1, hz.2.1] at hQ
                have := hnv (by omega)
                exact hQ V1 (by rw [ha1, ← hp1]) hp17 (fun _ => ⟨by rw [hv1, ← hp1]; omega, hb1⟩) hf1
              · have w6 := inR_0 w6
                refine gX_aloadn dX12_takeNumber_157 rfl ?_
                refine gX_iconst dX12_takeNumber_158 ⟨by decide, by decide⟩ ?_
                refine gX_aloadn dX12_takeNumber_159 rfl ?_
                refine gX_gI 20 dX12_takeNumber_160 fdX12_182 rfl (Or.inl rfl) hM.1 ?_
                rw [hb1]
                refine gX_virt (J := iX12_fails) (av := [gi 2, gi (pkB ys t.1)]) (a := 775) (st := []) dX12_takeNumber_163 lkX12_178 kX12_fails vX12_fails (gFit_m (by decide)) hM.1 rfl rfl (Nat.le_of_ble_eq_true rfl) (Nat.zero_le _) (Nat.zero_le _) rfl ?_
                refine m_fails hM ?_
                show gX l E _ 166 [some (ga 775), some (gi low), some (gi high), some (gi (lat ys (pkB ys t.1)))] [gi 2] (K, R, gup V1 775 17 (pkB ys t.1)) _ _
                refine gX_goto (tgt := 170) dX12_takeNumber_166 (by decide) ?_
                refine gX_iret dX12_takeNumber_170 (Or.inl rfl) ?_
                obtain ⟨n9, rfl⟩ : ∃ n9, n = n9 + 1 := ⟨n - 1, by omega⟩
                have hnF : ¬ (a < ys.length ∧ isF (lat ys a) = true) := by
                  rintro ⟨z1, z2⟩
                  unfold isF at z2
                  rw [decide_eq_true_eq] at z2
                  omega
                have e1 : fiF ys (pkB ys t.1) (n9 + 1) a v = (a, v) := by
                  show (if _ then _ else _) = _
                  rw [if_neg hnF]
                rw [e1] at hp1
                have hnu : nuB low high (pkB ys t.1) (fiF ys (pkB ys t.1) 321 (pkB ys t.1) 0) = true := by
                  rw [← hp1]
                  unfold nuB
                  rw [decide_eq_true_eq]
                  by_cases c9 : a - (pkB ys t.1) > 2
                  · exact Or.inl c9
                  · have := hnv (by omega)
                    refine Or.inr ?_
                    show v < low ∨ v > high
                    omega
                have eu : (tkNum ys low high t) = (-1, (fiF ys (pkB ys t.1) 321 (pkB ys t.1) 0).1, (pkB ys t.1), 2, (pkB ys t.1)) := by unfold tkNum; rw [if_pos hF, if_pos hnu]
                rw [eu] at hQ
                exact hQ _ (by rw [gup_k (by omega), ha1, ← hp1]) gup_s (fun z => by have z9 : (2 : Int) = 0 := z; omega) (hf1.up (by omega))
          · have w4 := inR_1 w4
            refine gX_aloadn dX12_takeNumber_75 rfl ?_
            refine gX_aloadn dX12_takeNumber_76 rfl ?_
            refine gX_gI 19 dX12_takeNumber_77 fdX12_185 rfl (Or.inl rfl) hM.1 ?_
            rw [hv1]
            refine gX_sipush dX12_takeNumber_80 (by decide) ⟨by decide, by decide⟩ ?_
            refine gX_icmple (tgt := 93) dX12_takeNumber_83 (by decide) (fun w7 => ?_) (fun w7 => ?_)
            · refine gX_bipush dX12_takeNumber_93 (by decide) ⟨by decide, by decide⟩ ?_
              refine gX_aloadn dX12_takeNumber_95 rfl ?_
              refine gX_gI 19 dX12_takeNumber_96 fdX12_185 rfl (Or.inl rfl) hM.1 ?_
              rw [hv1]
              refine gX_imul dX12_takeNumber_99 ⟨by omega, by omega⟩ ?_
              refine gX_aloadn dX12_takeNumber_100 rfl ?_
              refine gX_gR 15 dX12_takeNumber_101 fdX12_52 rfl rfl hM.1 (mR15 hM) ?_
              refine gX_aloadn dX12_takeNumber_104 rfl ?_
              refine gX_gI 18 dX12_takeNumber_105 fdX12_167 rfl (Or.inl rfl) hM.1 ?_
              rw [ha1]
              refine gX_iald dX12_takeNumber_108 (mA15 hM) (by omega) (by omega) ?_
              rw [show V1 790 a = lat ys a by rw [hf1.1 790 (by omega)]; exact ht.at (by omega) (by omega)]
              refine gX_iadd dX12_takeNumber_109 ⟨by omega, by omega⟩ ?_
              refine gX_bipush dX12_takeNumber_110 (by decide) ⟨by decide, by decide⟩ ?_
              refine gX_isub dX12_takeNumber_112 ⟨by omega, by omega⟩ ?_
              refine gX_pI 19 dX12_takeNumber_113 fdX12_185 fpX12_185 rfl (Or.inl rfl) hM.1 ?_
              refine gX_aloadn dX12_takeNumber_116 rfl ?_
              refine gX_dup dX12_takeNumber_117 rfl ?_
              refine gX_gI 18 dX12_takeNumber_118 fdX12_167 rfl (Or.inl rfl) hM.1 ?_
              rw [show gup V1 775 19 (((10 * nv) + (lat ys a)) - 48) 775 18 = a by rw [gup_k (by omega)]; exact ha1]
              refine gX_iconst dX12_takeNumber_121 ⟨by decide, by decide⟩ ?_
              refine gX_iadd dX12_takeNumber_122 ⟨by omega, by omega⟩ ?_
              refine gX_pI 18 dX12_takeNumber_123 fdX12_167 fpX12_167 rfl (Or.inl rfl) hM.1 ?_
              refine gX_goto (tgt := 42) dX12_takeNumber_126 (by decide) ?_
              obtain ⟨n9, rfl⟩ : ∃ n9, n = n9 + 1 := ⟨n - 1, by omega⟩
              have hisF : isF (lat ys a) = true := by unfold isF; rw [decide_eq_true_eq]; omega
              have e1 : fiF ys (pkB ys t.1) (n9 + 1) a v = fiF ys (pkB ys t.1) n9 (a + 1) (if a - (pkB ys t.1) < 2 then v * 10 + lat ys a - 48 else v) := by
                show (if _ then _ else _) = _
                rw [if_pos ⟨by omega, hisF⟩]
              rw [e1] at hp1
              refine ih (a + 1) n9 _ (10 * nv + lat ys a - 48) _ _ _ (by omega) (by omega) (by omega) gup_s (by rw [gup_k (by omega), gup_k (by omega)]; exact hb1) (by rw [gup_k (by omega)]; exact gup_s) (by omega) (fun z => ?_) hp1 (by omega) (by rw [gup_k (by omega), gup_k (by omega)]; exact hp17) ((hf1.up (by omega)).up (by omega)) (fun z => by omega) (fun z => ?_)
              · rw [if_pos (by omega), ← hnv (by omega)]; omega
              · have := hz0 (by omega); omega
            · refine gX_aloadn dX12_takeNumber_86 rfl ?_
              refine gX_gI 19 dX12_takeNumber_87 fdX12_185 rfl (Or.inl rfl) hM.1 ?_
              rw [hv1]
              refine gX_goto (tgt := 113) dX12_takeNumber_90 (by decide) ?_
              refine gX_pI 19 dX12_takeNumber_113 fdX12_185 fpX12_185 rfl (Or.inl rfl) hM.1 ?_
              refine gX_aloadn dX12_takeNumber_116 rfl ?_
              refine gX_dup dX12_takeNumber_117 rfl ?_
              refine gX_gI 18 dX12_takeNumber_118 fdX12_167 rfl (Or.inl rfl) hM.1 ?_
              rw [show gup V1 775 19 nv 775 18 = a by rw [gup_k (by omega)]; exact ha1]
              refine gX_iconst dX12_takeNumber_121 ⟨by decide, by decide⟩ ?_
              refine gX_iadd dX12_takeNumber_122 ⟨by omega, by omega⟩ ?_
              refine gX_pI 18 dX12_takeNumber_123 fdX12_167 fpX12_167 rfl (Or.inl rfl) hM.1 ?_
              refine gX_goto (tgt := 42) dX12_takeNumber_126 (by decide) ?_
              obtain ⟨n9, rfl⟩ : ∃ n9, n = n9 + 1 := ⟨n - 1, by omega⟩
              have hisF : isF (lat ys a) = true := by unfold isF; rw [decide_eq_true_eq]; omega
              have e1 : fiF ys (pkB ys t.1) (n9 + 1) a v = fiF ys (pkB ys t.1) n9 (a + 1) (if a - (pkB ys t.1) < 2 then v * 10 + lat ys a - 48 else v) := by
                show (if _ then _ else _) = _
                rw [if_pos ⟨by omega, hisF⟩]
              rw [e1] at hp1
              refine ih (a + 1) n9 _ nv _ _ _ (by omega) (by omega) (by omega) gup_s (by rw [gup_k (by omega), gup_k (by omega)]; exact hb1) (by rw [gup_k (by omega)]; exact gup_s) (by omega) (fun z => ?_) hp1 (by omega) (by rw [gup_k (by omega), gup_k (by omega)]; exact hp17) ((hf1.up (by omega)).up (by omega)) (fun z => by omega) (fun z => ?_)
              · exfalso; omega
              · exfalso; omega
    refine lp (ys.length + 1) (pkB ys t.1) 321 0 0 _ _ _ (by omega) (by omega) (by omega) (by rw [gup_k (by omega), gup_k (by omega)]; exact ha1) (by rw [gup_k (by omega)]; exact gup_s) gup_s (by omega) (fun _ => rfl) rfl (by omega) (by rw [gup_k (by omega), gup_k (by omega), hf0.2 17 (by omega)]; exact hz.2.2) ((hfa.up (by omega)).up (by omega)) (fun _ => rfl) (fun _ => by omega)
  · have m1 := inR_0 m1
    refine gX_aloadn dX12_takeNumber_19 rfl ?_
    refine gX_iconst dX12_takeNumber_20 ⟨by decide, by decide⟩ ?_
    refine gX_aloadn dX12_takeNumber_21 rfl ?_
    refine gX_gI 18 dX12_takeNumber_22 fdX12_167 rfl (Or.inl rfl) hM.1 ?_
    rw [ha1]
    refine gX_virt (J := iX12_fails) (av := [gi 1, gi (pkB ys t.1)]) (a := 775) (st := []) dX12_takeNumber_25 lkX12_178 kX12_fails vX12_fails (gFit_m (by decide)) hM.1 rfl rfl (Nat.le_of_ble_eq_true rfl) (Nat.zero_le _) (Nat.zero_le _) rfl ?_
    refine m_fails hM ?_
    show gX l E _ 28 [some (ga 775), some (gi low), some (gi high), some (gi (lat ys (pkB ys t.1)))] [gi 1] (K, R, gup Va 775 17 (pkB ys t.1)) _ _
    refine gX_iret dX12_takeNumber_28 (Or.inl rfl) ?_
    have hF : ¬ isF (lat ys (pkB ys t.1)) = true := by unfold isF; rw [decide_eq_true_eq]; omega
    have eu : (tkNum ys low high t) = (-1, (pkB ys t.1), t.2.1, 1, (pkB ys t.1)) := by unfold tkNum; rw [if_neg hF]
    rw [eu] at hQ
    exact hQ _ (by rw [gup_k (by omega)]; exact ha1) gup_s (fun z => by have z9 : (1 : Int) = 0 := z; omega) (hfa.up (by omega))
end MD14
