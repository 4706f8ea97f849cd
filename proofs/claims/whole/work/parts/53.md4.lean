/-! The reference: readings, what most have, what is restored. Written by wip/whole/tools/mk_md4.py. -/
def rdg (S : gbS) (ba b i : Int) : Int := lat (gbX S b) (lat (alg (gbX S ba) (gbX S b) 0) i)
def rdI (V : Int → Int → Int) (S : gbS) (ba se : Int) : Prop := ∀ b i : Int, 0 ≤ b → b < S.1.length → (b = ba ∨ btM se b) → 0 ≤ i → i < (gbX S ba).length → V 816 (40 * b + i) = rdg S ba b i
def rdF (V V' : Int → Int → Int) : Prop := ∀ a, a < 813 ∨ 816 < a → V' a = V a
theorem rdF.q {V V' : Int → Int → Int} (h : rdF V V') : qFr V V' := ⟨fun a ha => h a (by omega), by rw [h 775 (by omega)], by rw [h 775 (by omega)], by rw [h 775 (by omega)]⟩
/-- those of al that have r at i -/
def hvC (S : gbS) (ba al i r : Int) : Int := cntB (fun b => decide (gand (gshr al (b : Int)) 1 = 1) && decide (rdg S ba (b : Int) i = r)) S.1.length
def mmF (S : gbS) (ba al i : Int) : Nat → Int → Int → Int → Int
  | 0, _, best, _ => best
  | k + 1, r, best, many => mmF S ba al i k (r + 1) (if many < hvC S ba al i r then r else best) (if many < hvC S ba al i r then hvC S ba al i r else many)
def mmA (S : gbS) (ba se i : Int) : Int := mmF S ba (gor se (gshl 1 ba)) i 65 (-1) (rdg S ba ba i) (hvC S ba (gor se (gshl 1 ba)) i (rdg S ba ba i))
theorem alg_lat {xs ys : List Int} {i : Int} : lat (alg xs ys 0) i = -1 ∨ (0 ≤ lat (alg xs ys 0) i ∧ lat (alg xs ys 0) i < ys.length) := by
  rcases lat_cs (alg xs ys 0) i with e | e
  · exact Or.inl e
  · exact alg_mem xs ys e
section MD4
variable {l : Launch} {E : gE} {d : Nat} {K : List gK} {R V : Int → Int → Int} {a b i w ba se al r : Int} {Q : gQ} {S : gbS}
set_option maxRecDepth 4000 in
theorem m_findReadings (hM : mdK K R) (hS : mdIs V S) (hr1 : 0 ≤ ba ∧ ba < S.1.length) (hQ : ∀ V', rdI V' S ba se → rdF V V' → Q none (K, R, V')) : gC l E (d + 4) iX12_findReadings [ga 775, gi ba, gi se] (K, R, V) Q := by
  refine gC_of kX12_findReadings (ls := [some (ga 775), some (gi ba), some (gi se), none, none]) rfl (Nat.le_of_ble_eq_true rfl) ?_
  have hn0 := hS.1
  have hn1 := hS.2.1
  have hkb := (hS.2.2.2.1 ba hr1.1 hr1.2).1.tx
  rw [show (gbq S ba).1 = gbX S ba from rfl] at hkb
  have hb40 := hkb.2.1
  have lp : ∀ (jj : Nat) (b : Int) (j4 : Option gV) (V1 : Int → Int → Int) (bc bs : Nat), (S.1.length : Int) - b < (jj : Int) → 0 ≤ b → b ≤ S.1.length → (∀ b9 i9 : Int, 0 ≤ b9 → b9 < b → (b9 = ba ∨ btM se b9) → 0 ≤ i9 → i9 < (gbX S ba).length → V1 816 (40 * b9 + i9) = rdg S ba b9 i9) → rdF V V1 → gX l E (gFm E (d + 4) iX12_findReadings Q) 2 [some (ga 775), some (gi ba), some (gi se), some (gi b), j4] [] (K, R, V1) bc bs := by
    intro jj
    induction jj with
    | zero =>
      intro b j4 V1 bc bs hj q0 q1 hd1 hf1
      exfalso; omega
    | succ jj ih =>
      intro b j4 V1 bc bs hj q0 q1 hd1 hf1
      refine gX_iloadn dX12_findReadings_2 rfl ?_
      refine gX_aloadn dX12_findReadings_3 rfl ?_
      refine gX_gI 0 dX12_findReadings_4 fdX12_151 rfl (Or.inl rfl) hM.1 ?_
      rw [show V1 775 0 = (S.1.length : Int) by rw [hf1 775 (by omega)]; exact hS.1]
      refine gX_icmpge (tgt := 99) dX12_findReadings_7 (by decide) (fun m1 => ?_) (fun m1 => ?_)
      · refine gX_vret dX12_findReadings_99 rfl ?_
        exact hQ V1 (fun b9 i9 z0 z1 z2 z3 z4 => hd1 b9 i9 z0 (by omega) z2 z3 z4) hf1
      · refine gX_iloadn dX12_findReadings_10 rfl ?_
        refine gX_iloadn dX12_findReadings_11 rfl ?_
        refine gX_ishr dX12_findReadings_12 ?_
        refine gX_iconst dX12_findReadings_13 ⟨by decide, by decide⟩ ?_
        refine gX_iand dX12_findReadings_14 ?_
        refine gX_iconst dX12_findReadings_15 ⟨by decide, by decide⟩ ?_
        refine gX_icmpeq (tgt := 24) dX12_findReadings_16 (by decide) (fun m2 => ?_) (fun m2 => ?_)
        · have hko := (hS.2.2.2.1 b (by omega) (by omega)).1.tx
          rw [show (gbq S b).1 = gbX S b from rfl] at hko
          have ho40 := hko.2.1
          refine gX_aloadn dX12_findReadings_24 rfl ?_
          refine gX_iloadn dX12_findReadings_25 rfl ?_
          refine gX_iloadn dX12_findReadings_26 rfl ?_
          refine gX_virt (J := iX12_align) (av := [gi ba, gi b]) (a := 775) (st := []) dX12_findReadings_27 lkX12_422 kX12_align vX12_align (gFit_m (by decide)) hM.1 rfl rfl (Nat.le_of_ble_eq_true rfl) (Nat.zero_le _) (Nat.zero_le _) rfl ?_
          refine m_align hM ⟨by omega, by omega⟩ ⟨by omega, by omega⟩ (hkb.kept (hf1 776 (by omega)) (hf1 777 (by omega))) (hko.kept (hf1 776 (by omega)) (hf1 777 (by omega))) (fun V2 hc2 hf2 => ?_)
          show gX l E _ 30 [some (ga 775), some (gi ba), some (gi se), some (gi b), j4] [] (K, R, V2) _ _
          refine gX_iconst dX12_findReadings_30 ⟨by decide, by decide⟩ ?_
          refine gX_istore dX12_findReadings_31 (show (4 : Nat) < 5 from by decide) (ls2 := [some (ga 775), some (gi ba), some (gi se), some (gi b), some (gi 0)]) rfl ?_
          have hor : b = ba ∨ btM se b := by
            first
            | exact Or.inl (by omega)
            | exact Or.inr (by assumption)
          have lq : ∀ (jj : Nat) (i : Int) (V3 : Int → Int → Int) (bc bs : Nat), ((gbX S ba).length : Int) - i < (jj : Int) → 0 ≤ i → i ≤ (gbX S ba).length → (∀ b9 i9 : Int, 0 ≤ b9 → b9 < b → (b9 = ba ∨ btM se b9) → 0 ≤ i9 → i9 < (gbX S ba).length → V3 816 (40 * b9 + i9) = rdg S ba b9 i9) → (∀ i9 : Int, 0 ≤ i9 → i9 < i → V3 816 (40 * b + i9) = rdg S ba b i9) → (∀ i9 : Int, 0 ≤ i9 → i9 < (gbX S ba).length → V3 814 i9 = lat (alg (gbX S ba) (gbX S b) 0) i9) → rdF V V3 → (∀ V' i2 bc bs, (∀ b9 i9 : Int, 0 ≤ b9 → b9 < b + 1 → (b9 = ba ∨ btM se b9) → 0 ≤ i9 → i9 < (gbX S ba).length → V' 816 (40 * b9 + i9) = rdg S ba b9 i9) → rdF V V' → gX l E (gFm E (d + 4) iX12_findReadings Q) 93 [some (ga 775), some (gi ba), some (gi se), some (gi b), i2] [] (K, R, V') bc bs) → gX l E (gFm E (d + 4) iX12_findReadings Q) 33 [some (ga 775), some (gi ba), some (gi se), some (gi b), some (gi i)] [] (K, R, V3) bc bs := by
            intro jj
            induction jj with
            | zero =>
              intro i V3 bc bs hj k0 k1 hd3 hv3 hp3 hf3 hk2
              exfalso; omega
            | succ jj ih =>
              intro i V3 bc bs hj k0 k1 hd3 hv3 hp3 hf3 hk2
              refine gX_iload dX12_findReadings_33 rfl ?_
              refine gX_aloadn dX12_findReadings_35 rfl ?_
              refine gX_gR 1 dX12_findReadings_36 fdX12_7 rfl rfl hM.1 (mR1 hM) ?_
              refine gX_iloadn dX12_findReadings_39 rfl ?_
              refine gX_iald dX12_findReadings_40 (mA1 hM) (by omega) (by omega) ?_
              rw [show V3 776 ba = (gbX S ba).length by rw [hf3 776 (by omega)]; exact hkb.1]
              refine gX_icmpge (tgt := 93) dX12_findReadings_41 (by decide) (fun w1 => ?_) (fun w1 => ?_)
              · exact hk2 V3 _ _ _ (fun b9 i9 z0 z1 z2 z3 z4 => by
                  by_cases e9 : b9 = b
                  · subst e9; exact hv3 i9 z3 (by omega)
                  · exact hd3 b9 i9 z0 (by omega) z2 z3 z4) hf3
              · have hal := alg_lat (xs := (gbX S ba)) (ys := (gbX S b)) (i := i)
                have hkx : txI V3 b (gbX S b) := hko.kept (hf3 776 (by omega)) (hf3 777 (by omega))
                refine gX_aloadn dX12_findReadings_44 rfl ?_
                refine gX_gR 60 dX12_findReadings_45 fdX12_135 rfl rfl hM.1 (mR60 hM) ?_
                refine gX_bipush dX12_findReadings_48 (by decide) ⟨by decide, by decide⟩ ?_
                refine gX_iloadn dX12_findReadings_50 rfl ?_
                refine gX_imul dX12_findReadings_51 ⟨by omega, by omega⟩ ?_
                refine gX_iload dX12_findReadings_52 rfl ?_
                refine gX_iadd dX12_findReadings_54 ⟨by omega, by omega⟩ ?_
                refine gX_aloadn dX12_findReadings_55 rfl ?_
                refine gX_gR 58 dX12_findReadings_56 fdX12_129 rfl rfl hM.1 (mR58 hM) ?_
                refine gX_iload dX12_findReadings_59 rfl ?_
                refine gX_iald dX12_findReadings_61 (mA58 hM) (by omega) (by omega) ?_
                rw [hp3 i (by omega) (by omega)]
                refine gX_ifge (tgt := 69) dX12_findReadings_62 (by decide) (fun w2 => ?_) (fun w2 => ?_)
                · refine gX_aloadn dX12_findReadings_69 rfl ?_
                  refine gX_gR 2 dX12_findReadings_70 fdX12_13 rfl rfl hM.1 (mR2 hM) ?_
                  refine gX_bipush dX12_findReadings_73 (by decide) ⟨by decide, by decide⟩ ?_
                  refine gX_iloadn dX12_findReadings_75 rfl ?_
                  refine gX_imul dX12_findReadings_76 ⟨by omega, by omega⟩ ?_
                  refine gX_aloadn dX12_findReadings_77 rfl ?_
                  refine gX_gR 58 dX12_findReadings_78 fdX12_129 rfl rfl hM.1 (mR58 hM) ?_
                  refine gX_iload dX12_findReadings_81 rfl ?_
                  refine gX_iald dX12_findReadings_83 (mA58 hM) (by omega) (by omega) ?_
                  rw [hp3 i (by omega) (by omega)]
                  refine gX_iadd dX12_findReadings_84 ⟨by omega, by omega⟩ ?_
                  refine gX_iald dX12_findReadings_85 (mA2 hM) (by omega) (by omega) ?_
                  rw [hkx.2.2 _ (by omega) (by omega)]
                  refine gX_iast dX12_findReadings_86 (mA60 hM) (by omega) (by omega) ?_
                  refine gX_iinc dX12_findReadings_87 rfl (show (4 : Nat) < 5 from by decide) ⟨by omega, by omega⟩ (ls2 := [some (ga 775), some (gi ba), some (gi se), some (gi b), some (gi (i + 1))]) rfl ?_
                  refine gX_goto (tgt := 33) dX12_findReadings_90 (by decide) ?_
                  have ev : rdg S ba b i = lat (gbX S b) (lat (alg (gbX S ba) (gbX S b) 0) i) := rfl
                  refine ih (i + 1) _ _ _ (by omega) (by omega) (by omega) (fun b9 i9 z0 z1 z2 z3 z4 => by rw [gup_k (by omega)]; exact hd3 b9 i9 z0 z1 z2 z3 z4) (fun i9 z0 z1 => ?_) (fun i9 z0 z1 => by rw [gup_ne (by omega)]; exact hp3 i9 z0 z1) (fun x hx9 => by rw [gup_ne (by omega)]; exact hf3 x hx9) hk2
                  by_cases e9 : i9 = i
                  · subst e9
                    rw [ev]
                    exact gup_s
                  · rw [gup_k (by omega)]
                    exact hv3 i9 z0 (by omega)
                · refine gX_iconst dX12_findReadings_65 ⟨by decide, by decide⟩ ?_
                  refine gX_goto (tgt := 86) dX12_findReadings_66 (by decide) ?_
                  refine gX_iast dX12_findReadings_86 (mA60 hM) (by omega) (by omega) ?_
                  refine gX_iinc dX12_findReadings_87 rfl (show (4 : Nat) < 5 from by decide) ⟨by omega, by omega⟩ (ls2 := [some (ga 775), some (gi ba), some (gi se), some (gi b), some (gi (i + 1))]) rfl ?_
                  refine gX_goto (tgt := 33) dX12_findReadings_90 (by decide) ?_
                  have ev : rdg S ba b i = -1 := by unfold rdg; exact lat_out (by omega)
                  refine ih (i + 1) _ _ _ (by omega) (by omega) (by omega) (fun b9 i9 z0 z1 z2 z3 z4 => by rw [gup_k (by omega)]; exact hd3 b9 i9 z0 z1 z2 z3 z4) (fun i9 z0 z1 => ?_) (fun i9 z0 z1 => by rw [gup_ne (by omega)]; exact hp3 i9 z0 z1) (fun x hx9 => by rw [gup_ne (by omega)]; exact hf3 x hx9) hk2
                  by_cases e9 : i9 = i
                  · subst e9
                    rw [ev]
                    exact gup_s
                  · rw [gup_k (by omega)]
                    exact hv3 i9 z0 (by omega)
          refine lq ((gbX S ba).length + 1) 0 V2 _ _ (by omega) (by omega) (by omega) (fun b9 i9 z0 z1 z2 z3 z4 => by rw [hf2 816 (by omega) (by omega) (by omega)]; exact hd1 b9 i9 z0 z1 z2 z3 z4) (fun i9 z0 z1 => by omega) hc2.1 (fun x hx9 => by rw [hf2 x (by omega) (by omega) (by omega)]; exact hf1 x hx9) (fun V5 i2 bc bs hd5 hf5 => ?_)
          refine gX_iinc dX12_findReadings_93 rfl (show (3 : Nat) < 5 from by decide) ⟨by omega, by omega⟩ (ls2 := [some (ga 775), some (gi ba), some (gi se), some (gi (b + 1)), i2]) rfl ?_
          refine gX_goto (tgt := 2) dX12_findReadings_96 (by decide) ?_
          exact ih (b + 1) _ V5 _ _ (by omega) (by omega) (by omega) hd5 hf5
        · refine gX_iloadn dX12_findReadings_19 rfl ?_
          refine gX_iloadn dX12_findReadings_20 rfl ?_
          refine gX_icmpne (tgt := 93) dX12_findReadings_21 (by decide) (fun m3 => ?_) (fun m3 => ?_)
          · refine gX_iinc dX12_findReadings_93 rfl (show (3 : Nat) < 5 from by decide) ⟨by omega, by omega⟩ (ls2 := [some (ga 775), some (gi ba), some (gi se), some (gi (b + 1)), j4]) rfl ?_
            refine gX_goto (tgt := 2) dX12_findReadings_96 (by decide) ?_
            exact ih (b + 1) _ V1 _ _ (by omega) (by omega) (by omega) (fun b9 i9 z0 z1 z2 z3 z4 => by
              by_cases e9 : b9 = b
              · exfalso; subst e9; rcases z2 with z | z
                · omega
                · exact absurd z (by assumption)
              · exact hd1 b9 i9 z0 (by omega) z2 z3 z4) hf1
          · have hko := (hS.2.2.2.1 b (by omega) (by omega)).1.tx
            rw [show (gbq S b).1 = gbX S b from rfl] at hko
            have ho40 := hko.2.1
            refine gX_aloadn dX12_findReadings_24 rfl ?_
            refine gX_iloadn dX12_findReadings_25 rfl ?_
            refine gX_iloadn dX12_findReadings_26 rfl ?_
            refine gX_virt (J := iX12_align) (av := [gi ba, gi b]) (a := 775) (st := []) dX12_findReadings_27 lkX12_422 kX12_align vX12_align (gFit_m (by decide)) hM.1 rfl rfl (Nat.le_of_ble_eq_true rfl) (Nat.zero_le _) (Nat.zero_le _) rfl ?_
            refine m_align hM ⟨by omega, by omega⟩ ⟨by omega, by omega⟩ (hkb.kept (hf1 776 (by omega)) (hf1 777 (by omega))) (hko.kept (hf1 776 (by omega)) (hf1 777 (by omega))) (fun V2 hc2 hf2 => ?_)
            show gX l E _ 30 [some (ga 775), some (gi ba), some (gi se), some (gi b), j4] [] (K, R, V2) _ _
            refine gX_iconst dX12_findReadings_30 ⟨by decide, by decide⟩ ?_
            refine gX_istore dX12_findReadings_31 (show (4 : Nat) < 5 from by decide) (ls2 := [some (ga 775), some (gi ba), some (gi se), some (gi b), some (gi 0)]) rfl ?_
            have hor : b = ba ∨ btM se b := by
              first
              | exact Or.inl (by omega)
              | exact Or.inr (by assumption)
            have lq : ∀ (jj : Nat) (i : Int) (V3 : Int → Int → Int) (bc bs : Nat), ((gbX S ba).length : Int) - i < (jj : Int) → 0 ≤ i → i ≤ (gbX S ba).length → (∀ b9 i9 : Int, 0 ≤ b9 → b9 < b → (b9 = ba ∨ btM se b9) → 0 ≤ i9 → i9 < (gbX S ba).length → V3 816 (40 * b9 + i9) = rdg S ba b9 i9) → (∀ i9 : Int, 0 ≤ i9 → i9 < i → V3 816 (40 * b + i9) = rdg S ba b i9) → (∀ i9 : Int, 0 ≤ i9 → i9 < (gbX S ba).length → V3 814 i9 = lat (alg (gbX S ba) (gbX S b) 0) i9) → rdF V V3 → (∀ V' i2 bc bs, (∀ b9 i9 : Int, 0 ≤ b9 → b9 < b + 1 → (b9 = ba ∨ btM se b9) → 0 ≤ i9 → i9 < (gbX S ba).length → V' 816 (40 * b9 + i9) = rdg S ba b9 i9) → rdF V V' → gX l E (gFm E (d + 4) iX12_findReadings Q) 93 [some (ga 775), some (gi ba), some (gi se), some (gi b), i2] [] (K, R, V') bc bs) → gX l E (gFm E (d + 4) iX12_findReadings Q) 33 [some (ga 775), some (gi ba), some (gi se), some (gi b), some (gi i)] [] (K, R, V3) bc bs := by
              intro jj
              induction jj with
              | zero =>
                intro i V3 bc bs hj k0 k1 hd3 hv3 hp3 hf3 hk2
                exfalso; omega
              | succ jj ih =>
                intro i V3 bc bs hj k0 k1 hd3 hv3 hp3 hf3 hk2
                refine gX_iload dX12_findReadings_33 rfl ?_
                refine gX_aloadn dX12_findReadings_35 rfl ?_
                refine gX_gR 1 dX12_findReadings_36 fdX12_7 rfl rfl hM.1 (mR1 hM) ?_
                refine gX_iloadn dX12_findReadings_39 rfl ?_
                refine gX_iald dX12_findReadings_40 (mA1 hM) (by omega) (by omega) ?_
                rw [show V3 776 ba = (gbX S ba).length by rw [hf3 776 (by omega)]; exact hkb.1]
                refine gX_icmpge (tgt := 93) dX12_findReadings_41 (by decide) (fun w1 => ?_) (fun w1 => ?_)
                · exact hk2 V3 _ _ _ (fun b9 i9 z0 z1 z2 z3 z4 => by
                    by_cases e9 : b9 = b
                    · subst e9; exact hv3 i9 z3 (by omega)
                    · exact hd3 b9 i9 z0 (by omega) z2 z3 z4) hf3
                · have hal := alg_lat (xs := (gbX S ba)) (ys := (gbX S b)) (i := i)
                  have hkx : txI V3 b (gbX S b) := hko.kept (hf3 776 (by omega)) (hf3 777 (by omega))
                  refine gX_aloadn dX12_findReadings_44 rfl ?_
                  refine gX_gR 60 dX12_findReadings_45 fdX12_135 rfl rfl hM.1 (mR60 hM) ?_
                  refine gX_bipush dX12_findReadings_48 (by decide) ⟨by decide, by decide⟩ ?_
                  refine gX_iloadn dX12_findReadings_50 rfl ?_
                  refine gX_imul dX12_findReadings_51 ⟨by omega, by omega⟩ ?_
                  refine gX_iload dX12_findReadings_52 rfl ?_
                  refine gX_iadd dX12_findReadings_54 ⟨by omega, by omega⟩ ?_
                  refine gX_aloadn dX12_findReadings_55 rfl ?_
                  refine gX_gR 58 dX12_findReadings_56 fdX12_129 rfl rfl hM.1 (mR58 hM) ?_
                  refine gX_iload dX12_findReadings_59 rfl ?_
                  refine gX_iald dX12_findReadings_61 (mA58 hM) (by omega) (by omega) ?_
                  rw [hp3 i (by omega) (by omega)]
                  refine gX_ifge (tgt := 69) dX12_findReadings_62 (by decide) (fun w2 => ?_) (fun w2 => ?_)
                  · refine gX_aloadn dX12_findReadings_69 rfl ?_
                    refine gX_gR 2 dX12_findReadings_70 fdX12_13 rfl rfl hM.1 (mR2 hM) ?_
                    refine gX_bipush dX12_findReadings_73 (by decide) ⟨by decide, by decide⟩ ?_
                    refine gX_iloadn dX12_findReadings_75 rfl ?_
                    refine gX_imul dX12_findReadings_76 ⟨by omega, by omega⟩ ?_
                    refine gX_aloadn dX12_findReadings_77 rfl ?_
                    refine gX_gR 58 dX12_findReadings_78 fdX12_129 rfl rfl hM.1 (mR58 hM) ?_
                    refine gX_iload dX12_findReadings_81 rfl ?_
                    refine gX_iald dX12_findReadings_83 (mA58 hM) (by omega) (by omega) ?_
                    rw [hp3 i (by omega) (by omega)]
                    refine gX_iadd dX12_findReadings_84 ⟨by omega, by omega⟩ ?_
                    refine gX_iald dX12_findReadings_85 (mA2 hM) (by omega) (by omega) ?_
                    rw [hkx.2.2 _ (by omega) (by omega)]
                    refine gX_iast dX12_findReadings_86 (mA60 hM) (by omega) (by omega) ?_
                    refine gX_iinc dX12_findReadings_87 rfl (show (4 : Nat) < 5 from by decide) ⟨by omega, by omega⟩ (ls2 := [some (ga 775), some (gi ba), some (gi se), some (gi b), some (gi (i + 1))]) rfl ?_
                    refine gX_goto (tgt := 33) dX12_findReadings_90 (by decide) ?_
                    have ev : rdg S ba b i = lat (gbX S b) (lat (alg (gbX S ba) (gbX S b) 0) i) := rfl
                    refine ih (i + 1) _ _ _ (by omega) (by omega) (by omega) (fun b9 i9 z0 z1 z2 z3 z4 => by rw [gup_k (by omega)]; exact hd3 b9 i9 z0 z1 z2 z3 z4) (fun i9 z0 z1 => ?_) (fun i9 z0 z1 => by rw [gup_ne (by omega)]; exact hp3 i9 z0 z1) (fun x hx9 => by rw [gup_ne (by omega)]; exact hf3 x hx9) hk2
                    by_cases e9 : i9 = i
                    · subst e9
                      rw [ev]
                      exact gup_s
                    · rw [gup_k (by omega)]
                      exact hv3 i9 z0 (by omega)
                  · refine gX_iconst dX12_findReadings_65 ⟨by decide, by decide⟩ ?_
                    refine gX_goto (tgt := 86) dX12_findReadings_66 (by decide) ?_
                    refine gX_iast dX12_findReadings_86 (mA60 hM) (by omega) (by omega) ?_
                    refine gX_iinc dX12_findReadings_87 rfl (show (4 : Nat) < 5 from by decide) ⟨by omega, by omega⟩ (ls2 := [some (ga 775), some (gi ba), some (gi se), some (gi b), some (gi (i + 1))]) rfl ?_
                    refine gX_goto (tgt := 33) dX12_findReadings_90 (by decide) ?_
                    have ev : rdg S ba b i = -1 := by unfold rdg; exact lat_out (by omega)
                    refine ih (i + 1) _ _ _ (by omega) (by omega) (by omega) (fun b9 i9 z0 z1 z2 z3 z4 => by rw [gup_k (by omega)]; exact hd3 b9 i9 z0 z1 z2 z3 z4) (fun i9 z0 z1 => ?_) (fun i9 z0 z1 => by rw [gup_ne (by omega)]; exact hp3 i9 z0 z1) (fun x hx9 => by rw [gup_ne (by omega)]; exact hf3 x hx9) hk2
                    by_cases e9 : i9 = i
                    · subst e9
                      rw [ev]
                      exact gup_s
                    · rw [gup_k (by omega)]
                      exact hv3 i9 z0 (by omega)
            refine lq ((gbX S ba).length + 1) 0 V2 _ _ (by omega) (by omega) (by omega) (fun b9 i9 z0 z1 z2 z3 z4 => by rw [hf2 816 (by omega) (by omega) (by omega)]; exact hd1 b9 i9 z0 z1 z2 z3 z4) (fun i9 z0 z1 => by omega) hc2.1 (fun x hx9 => by rw [hf2 x (by omega) (by omega) (by omega)]; exact hf1 x hx9) (fun V5 i2 bc bs hd5 hf5 => ?_)
            refine gX_iinc dX12_findReadings_93 rfl (show (3 : Nat) < 5 from by decide) ⟨by omega, by omega⟩ (ls2 := [some (ga 775), some (gi ba), some (gi se), some (gi (b + 1)), i2]) rfl ?_
            refine gX_goto (tgt := 2) dX12_findReadings_96 (by decide) ?_
            exact ih (b + 1) _ V5 _ _ (by omega) (by omega) (by omega) hd5 hf5
  refine gX_iconst dX12_findReadings_0 ⟨by decide, by decide⟩ ?_
  refine gX_istoren dX12_findReadings_1 (show (3 : Nat) < 5 from by decide) (ls2 := [some (ga 775), some (gi ba), some (gi se), some (gi 0), none]) rfl ?_
  exact lp 11 0 none V _ _ (by omega) (by omega) (by omega) (fun b9 i9 z0 z1 z2 z3 z4 => by omega) (fun _ _ => rfl)
set_option maxRecDepth 4000 in
theorem m_reading (hM : mdK K R) (hS : mdIs V S) (hQ : ∀ V', qFr V V' → Q (some (gi (aRead S a b i))) (K, R, V')) : gC l E (d + 5) iX12_reading [ga 775, gi a, gi b, gi i] (K, R, V) Q := by
  refine gC_of kX12_reading (ls := [some (ga 775), some (gi a), some (gi b), some (gi i)]) rfl (Nat.le_of_ble_eq_true rfl) ?_
  have hn0 := hS.1
  have hn1 := hS.2.1
  refine gX_aloadn dX12_reading_0 rfl ?_
  refine gX_iloadn dX12_reading_1 rfl ?_
  refine gX_virt (J := iX12_isBook) (av := [gi a]) (a := 775) (st := []) dX12_reading_2 lkX12_371 kX12_isBook vX12_isBook (gFit_m (by decide)) hM.1 rfl rfl (Nat.le_of_ble_eq_true rfl) (Nat.zero_le _) (Nat.zero_le _) rfl ?_
  refine m_isBook hM hS.1 hS.2.1 ?_
  show gX l E _ 5 [some (ga 775), some (gi a), some (gi b), some (gi i)] [gi (b2i (inR a 0 ((S.1.length : Int) - 1)))] (K, R, V) _ _
  refine gX_ifeq (tgt := 16) dX12_reading_5 (by decide) (fun w1 => ?_) (fun w1 => ?_)
  · have w1 := inR_0 w1
    refine gX_sipush dX12_reading_16 (by decide) ⟨by decide, by decide⟩ ?_
    refine gX_iret dX12_reading_19 (Or.inl rfl) ?_
    have ea : aRead S a b i = -1001 := by
      unfold aRead
      rw [if_neg (by omega)]
    rw [ea] at hQ
    exact hQ V qFr.rf
  · have w1 := inR_1 w1
    refine gX_aloadn dX12_reading_8 rfl ?_
    refine gX_iloadn dX12_reading_9 rfl ?_
    refine gX_virt (J := iX12_isBook) (av := [gi b]) (a := 775) (st := []) dX12_reading_10 lkX12_371 kX12_isBook vX12_isBook (gFit_m (by decide)) hM.1 rfl rfl (Nat.le_of_ble_eq_true rfl) (Nat.zero_le _) (Nat.zero_le _) rfl ?_
    refine m_isBook hM hS.1 hS.2.1 ?_
    show gX l E _ 13 [some (ga 775), some (gi a), some (gi b), some (gi i)] [gi (b2i (inR b 0 ((S.1.length : Int) - 1)))] (K, R, V) _ _
    refine gX_ifne (tgt := 20) dX12_reading_13 (by decide) (fun w2 => ?_) (fun w2 => ?_)
    · have w2 := inR_1 w2
      have hr1 : 0 ≤ a ∧ a < S.1.length := ⟨by omega, by omega⟩
      have hr2 : 0 ≤ b ∧ b < S.1.length := ⟨by omega, by omega⟩
      have hk1 := (hS.2.2.2.1 a hr1.1 hr1.2).1.tx
      rw [show (gbq S a).1 = gbX S a from rfl] at hk1
      have hq40 := hk1.2.1
      refine gX_iloadn dX12_reading_20 rfl ?_
      refine gX_i2l dX12_reading_21 ?_
      refine gX_lconst (x := 0) dX12_reading_22 (by decide) ⟨by decide, by decide⟩ ?_
      refine gX_aloadn dX12_reading_23 rfl ?_
      refine gX_gR 1 dX12_reading_24 fdX12_7 rfl rfl hM.1 (mR1 hM) ?_
      refine gX_iloadn dX12_reading_27 rfl ?_
      refine gX_iald dX12_reading_28 (mA1 hM) (by omega) (by omega) ?_
      rw [hk1.1]
      refine gX_iconst dX12_reading_29 ⟨by decide, by decide⟩ ?_
      refine gX_isub dX12_reading_30 ⟨by omega, by omega⟩ ?_
      refine gX_i2l dX12_reading_31 ?_
      refine gX_stat (J := iX12_in) (av := [gl i, gl 0, gl (((gbX S a).length : Int) - 1)]) (st := []) dX12_reading_32 lkX12_154 kX12_in sX12_in (gFit_m (by decide)) rfl (Nat.le_of_ble_eq_true rfl) (Nat.zero_le _) (Nat.zero_le _) rfl ?_
      refine m_in ?_
      show gX l E _ 35 [some (ga 775), some (gi a), some (gi b), some (gi i)] [gi (b2i (inR i 0 (((gbX S a).length : Int) - 1)))] (K, R, V) _ _
      refine gX_ifne (tgt := 42) dX12_reading_35 (by decide) (fun w3 => ?_) (fun w3 => ?_)
      · have w3 := inR_1 w3
        refine gX_aloadn dX12_reading_42 rfl ?_
        refine gX_iloadn dX12_reading_43 rfl ?_
        refine gX_iconst dX12_reading_44 ⟨by decide, by decide⟩ ?_
        refine gX_iloadn dX12_reading_45 rfl ?_
        refine gX_ishl dX12_reading_46 ?_
        refine gX_virt (J := iX12_findReadings) (av := [gi a, gi (gshl 1 b)]) (a := 775) (st := []) dX12_reading_47 lkX12_428 kX12_findReadings vX12_findReadings (gFit_m (by decide)) hM.1 rfl rfl (Nat.le_of_ble_eq_true rfl) (Nat.zero_le _) (Nat.zero_le _) rfl ?_
        refine m_findReadings hM hS hr1 (fun V1 hc1 hf1 => ?_)
        show gX l E _ 50 [some (ga 775), some (gi a), some (gi b), some (gi i)] [] (K, R, V1) _ _
        refine gX_aloadn dX12_reading_50 rfl ?_
        refine gX_gR 60 dX12_reading_51 fdX12_135 rfl rfl hM.1 (mR60 hM) ?_
        refine gX_bipush dX12_reading_54 (by decide) ⟨by decide, by decide⟩ ?_
        refine gX_iloadn dX12_reading_56 rfl ?_
        refine gX_imul dX12_reading_57 ⟨by omega, by omega⟩ ?_
        refine gX_iloadn dX12_reading_58 rfl ?_
        refine gX_iadd dX12_reading_59 ⟨by omega, by omega⟩ ?_
        refine gX_iald dX12_reading_60 (mA60 hM) (by omega) (by omega) ?_
        rw [hc1 b i (by omega) (by omega) (Or.inr (bt_one (by omega) (by omega))) (by omega) (by omega)]
        refine gX_iret dX12_reading_61 (Or.inl rfl) ?_
        have ea : aRead S a b i = rdg S a b i := by
          unfold aRead
          rw [if_pos ⟨hr1, hr2⟩, if_pos (by omega)]
          rfl
        rw [ea] at hQ
        exact hQ V1 hf1.q
      · have w3 := inR_0 w3
        refine gX_sipush dX12_reading_38 (by decide) ⟨by decide, by decide⟩ ?_
        refine gX_iret dX12_reading_41 (Or.inl rfl) ?_
        have ea : aRead S a b i = -1002 := by
          unfold aRead
          rw [if_pos ⟨hr1, hr2⟩, if_neg (by omega)]
        rw [ea] at hQ
        exact hQ V qFr.rf
    · have w2 := inR_0 w2
      refine gX_sipush dX12_reading_16 (by decide) ⟨by decide, by decide⟩ ?_
      refine gX_iret dX12_reading_19 (Or.inl rfl) ?_
      have ea : aRead S a b i = -1001 := by
        unfold aRead
        rw [if_neg (by omega)]
      rw [ea] at hQ
      exact hQ V qFr.rf
set_option maxRecDepth 4000 in
theorem m_having (hM : mdK K R) (hn : V 775 0 = S.1.length) (hn1 : S.1.length ≤ 10) (hi : 0 ≤ i ∧ i < 40) (hrd : ∀ b : Int, 0 ≤ b → b < S.1.length → btM al b → V 816 (40 * b + i) = rdg S ba b i) (hQ : Q (some (gi (hvC S ba al i r))) (K, R, V)) : gC l E (d + 1) iX12_having [ga 775, gi al, gi i, gi r] (K, R, V) Q := by
  refine gC_of kX12_having (ls := [some (ga 775), some (gi al), some (gi i), some (gi r), none, none]) rfl (Nat.le_of_ble_eq_true rfl) ?_
  have lp : ∀ (jj : Nat) (b : Int) (n : Int) (bc bs : Nat), (S.1.length : Int) - b < (jj : Int) → 0 ≤ b → b ≤ S.1.length → n = cntB (fun b => decide (gand (gshr al (b : Int)) 1 = 1) && decide (rdg S ba (b : Int) i = r)) b.toNat → gX l E (gFm E (d + 1) iX12_having Q) 6 [some (ga 775), some (gi al), some (gi i), some (gi r), some (gi n), some (gi b)] [] (K, R, V) bc bs := by
    intro jj
    induction jj with
    | zero =>
      intro b n bc bs hj q0 q1 q2
      exfalso; omega
    | succ jj ih =>
      intro b n bc bs hj q0 q1 q2
      refine gX_iload dX12_having_6 rfl ?_
      refine gX_aloadn dX12_having_8 rfl ?_
      refine gX_gI 0 dX12_having_9 fdX12_151 rfl (Or.inl rfl) hM.1 ?_
      rw [hn]
      refine gX_icmpge (tgt := 57) dX12_having_12 (by decide) (fun w1 => ?_) (fun w1 => ?_)
      · refine gX_iload dX12_having_57 rfl ?_
        refine gX_iret dX12_having_59 (Or.inl rfl) ?_
        have eb : b.toNat = S.1.length := by omega
        rw [eb] at q2
        rw [q2]
        exact hQ
      · have hcb := cntB_bd (fun b => decide (gand (gshr al (b : Int)) 1 = 1) && decide (rdg S ba (b : Int) i = r)) b.toNat
        refine gX_iload dX12_having_15 rfl ?_
        refine gX_iloadn dX12_having_17 rfl ?_
        refine gX_iload dX12_having_18 rfl ?_
        refine gX_ishr dX12_having_20 ?_
        refine gX_iconst dX12_having_21 ⟨by decide, by decide⟩ ?_
        refine gX_iand dX12_having_22 ?_
        refine gX_iconst dX12_having_23 ⟨by decide, by decide⟩ ?_
        refine gX_icmpne (tgt := 47) dX12_having_24 (by decide) (fun w2 => ?_) (fun w2 => ?_)
        · refine gX_iconst dX12_having_47 ⟨by decide, by decide⟩ ?_
          refine gX_iadd dX12_having_48 ⟨by omega, by omega⟩ ?_
          refine gX_istore dX12_having_49 (show (4 : Nat) < 6 from by decide) (ls2 := [some (ga 775), some (gi al), some (gi i), some (gi r), some (gi (n + 0)), some (gi b)]) rfl ?_
          refine gX_iinc dX12_having_51 rfl (show (5 : Nat) < 6 from by decide) ⟨by omega, by omega⟩ (ls2 := [some (ga 775), some (gi al), some (gi i), some (gi r), some (gi (n + 0)), some (gi (b + 1))]) rfl ?_
          refine gX_goto (tgt := 6) dX12_having_54 (by decide) ?_
          have eb : (b + 1).toNat = b.toNat + 1 := by omega
          have en : ((b.toNat : Nat) : Int) = b := by omega
          refine ih (b + 1) _ _ _ (by omega) (by omega) (by omega) ?_
          rw [eb, cntB_s, ← q2]
          show _ = n + (if (decide (gand (gshr al ((b.toNat : Nat) : Int)) 1 = 1) && decide (rdg S ba ((b.toNat : Nat) : Int) i = r)) = true then 1 else 0)
          rw [en]
          rw [if_neg (by simp only [Bool.and_eq_true, decide_eq_true_eq]; rintro ⟨z1, z2⟩; first | exact absurd z1 (by assumption) | exact absurd z2 (by assumption))]
        · refine gX_aloadn dX12_having_27 rfl ?_
          refine gX_gR 60 dX12_having_28 fdX12_135 rfl rfl hM.1 (mR60 hM) ?_
          refine gX_bipush dX12_having_31 (by decide) ⟨by decide, by decide⟩ ?_
          refine gX_iload dX12_having_33 rfl ?_
          refine gX_imul dX12_having_35 ⟨by omega, by omega⟩ ?_
          refine gX_iloadn dX12_having_36 rfl ?_
          refine gX_iadd dX12_having_37 ⟨by omega, by omega⟩ ?_
          refine gX_iald dX12_having_38 (mA60 hM) (by omega) (by omega) ?_
          rw [hrd b (by omega) (by omega) (by assumption)]
          refine gX_iloadn dX12_having_39 rfl ?_
          refine gX_icmpne (tgt := 47) dX12_having_40 (by decide) (fun w3 => ?_) (fun w3 => ?_)
          · refine gX_iconst dX12_having_47 ⟨by decide, by decide⟩ ?_
            refine gX_iadd dX12_having_48 ⟨by omega, by omega⟩ ?_
            refine gX_istore dX12_having_49 (show (4 : Nat) < 6 from by decide) (ls2 := [some (ga 775), some (gi al), some (gi i), some (gi r), some (gi (n + 0)), some (gi b)]) rfl ?_
            refine gX_iinc dX12_having_51 rfl (show (5 : Nat) < 6 from by decide) ⟨by omega, by omega⟩ (ls2 := [some (ga 775), some (gi al), some (gi i), some (gi r), some (gi (n + 0)), some (gi (b + 1))]) rfl ?_
            refine gX_goto (tgt := 6) dX12_having_54 (by decide) ?_
            have eb : (b + 1).toNat = b.toNat + 1 := by omega
            have en : ((b.toNat : Nat) : Int) = b := by omega
            refine ih (b + 1) _ _ _ (by omega) (by omega) (by omega) ?_
            rw [eb, cntB_s, ← q2]
            show _ = n + (if (decide (gand (gshr al ((b.toNat : Nat) : Int)) 1 = 1) && decide (rdg S ba ((b.toNat : Nat) : Int) i = r)) = true then 1 else 0)
            rw [en]
            rw [if_neg (by simp only [Bool.and_eq_true, decide_eq_true_eq]; rintro ⟨z1, z2⟩; first | exact absurd z1 (by assumption) | exact absurd z2 (by assumption))]
          · refine gX_iconst dX12_having_43 ⟨by decide, by decide⟩ ?_
            refine gX_goto (tgt := 48) dX12_having_44 (by decide) ?_
            refine gX_iadd dX12_having_48 ⟨by omega, by omega⟩ ?_
            refine gX_istore dX12_having_49 (show (4 : Nat) < 6 from by decide) (ls2 := [some (ga 775), some (gi al), some (gi i), some (gi r), some (gi (n + 1)), some (gi b)]) rfl ?_
            refine gX_iinc dX12_having_51 rfl (show (5 : Nat) < 6 from by decide) ⟨by omega, by omega⟩ (ls2 := [some (ga 775), some (gi al), some (gi i), some (gi r), some (gi (n + 1)), some (gi (b + 1))]) rfl ?_
            refine gX_goto (tgt := 6) dX12_having_54 (by decide) ?_
            have eb : (b + 1).toNat = b.toNat + 1 := by omega
            have en : ((b.toNat : Nat) : Int) = b := by omega
            refine ih (b + 1) _ _ _ (by omega) (by omega) (by omega) ?_
            rw [eb, cntB_s, ← q2]
            show _ = n + (if (decide (gand (gshr al ((b.toNat : Nat) : Int)) 1 = 1) && decide (rdg S ba ((b.toNat : Nat) : Int) i = r)) = true then 1 else 0)
            rw [en]
            rw [if_pos (by simp only [Bool.and_eq_true, decide_eq_true_eq]; exact ⟨by omega, by omega⟩)]
  refine gX_iconst dX12_having_0 ⟨by decide, by decide⟩ ?_
  refine gX_istore dX12_having_1 (show (4 : Nat) < 6 from by decide) (ls2 := [some (ga 775), some (gi al), some (gi i), some (gi r), some (gi 0), none]) rfl ?_
  refine gX_iconst dX12_having_3 ⟨by decide, by decide⟩ ?_
  refine gX_istore dX12_having_4 (show (5 : Nat) < 6 from by decide) (ls2 := [some (ga 775), some (gi al), some (gi i), some (gi r), some (gi 0), some (gi 0)]) rfl ?_
  exact lp 11 0 0 _ _ (by omega) (by omega) (by omega) rfl
set_option maxRecDepth 4000 in
theorem m_mostAt (hM : mdK K R) (hn : V 775 0 = S.1.length) (hn1 : S.1.length ≤ 10) (hr1 : 0 ≤ ba ∧ ba < S.1.length) (hse : 0 ≤ se ∧ se < 1024) (hi : 0 ≤ i ∧ i < (gbX S ba).length) (h40 : (gbX S ba).length ≤ 40) (hrd : rdI V S ba se) (hQ : Q (some (gi (mmA S ba se i))) (K, R, V)) : gC l E (d + 2) iX12_mostAt [ga 775, gi ba, gi se, gi i] (K, R, V) Q := by
  refine gC_of kX12_mostAt (ls := [some (ga 775), some (gi ba), some (gi se), some (gi i), none, none, none, none, none]) rfl (Nat.le_of_ble_eq_true rfl) ?_
  have lp : ∀ (jj : Nat) (r : Int) (be : Int) (mn : Int) (j8 : Option gV) (bc bs : Nat), (64 : Int) - r < (jj : Int) → -1 ≤ r → r ≤ 64 → (Q (some (gi (mmF S ba (gor se (gshl 1 ba)) i (64 - r).toNat r be mn))) (K, R, V)) → gX l E (gFm E (d + 2) iX12_mostAt Q) 34 [some (ga 775), some (gi ba), some (gi se), some (gi i), some (gi (gor se (gshl 1 ba))), some (gi be), some (gi mn), some (gi r), j8] [] (K, R, V) bc bs := by
    intro jj
    induction jj with
    | zero =>
      intro r be mn j8 bc bs hj q0 q1 hq2
      exfalso; omega
    | succ jj ih =>
      intro r be mn j8 bc bs hj q0 q1 hq2
      refine gX_iload dX12_mostAt_34 rfl ?_
      refine gX_bipush dX12_mostAt_36 (by decide) ⟨by decide, by decide⟩ ?_
      refine gX_icmpge (tgt := 73) dX12_mostAt_38 (by decide) (fun w1 => ?_) (fun w1 => ?_)
      · refine gX_iload dX12_mostAt_73 rfl ?_
        refine gX_iret dX12_mostAt_75 (Or.inl rfl) ?_
        have ei : (64 - r).toNat = 0 := by omega
        rw [ei] at hq2
        exact hq2
      · refine gX_aloadn dX12_mostAt_41 rfl ?_
        refine gX_iload dX12_mostAt_42 rfl ?_
        refine gX_iloadn dX12_mostAt_44 rfl ?_
        refine gX_iload dX12_mostAt_45 rfl ?_
        refine gX_virt (J := iX12_having) (av := [gi (gor se (gshl 1 ba)), gi i, gi r]) (a := 775) (st := []) dX12_mostAt_47 lkX12_431 kX12_having vX12_having (gFit_m (by decide)) hM.1 rfl rfl (Nat.le_of_ble_eq_true rfl) (Nat.zero_le _) (Nat.zero_le _) rfl ?_
        refine m_having (ba := ba) hM hn hn1 ⟨by omega, by omega⟩ (fun b z0 z1 z2 => hrd b i z0 z1 ((bt_gor hse ⟨by omega, by omega⟩ ⟨z0, by omega⟩).mp z2) hi.1 hi.2) ?_
        show gX l E _ 50 [some (ga 775), some (gi ba), some (gi se), some (gi i), some (gi (gor se (gshl 1 ba))), some (gi be), some (gi mn), some (gi r), j8] [gi (hvC S ba (gor se (gshl 1 ba)) i r)] (K, R, V) _ _
        refine gX_istore dX12_mostAt_50 (show (8 : Nat) < 9 from by decide) (ls2 := [some (ga 775), some (gi ba), some (gi se), some (gi i), some (gi (gor se (gshl 1 ba))), some (gi be), some (gi mn), some (gi r), some (gi (hvC S ba (gor se (gshl 1 ba)) i r))]) rfl ?_
        refine gX_iload dX12_mostAt_52 rfl ?_
        refine gX_iload dX12_mostAt_54 rfl ?_
        refine gX_icmple (tgt := 67) dX12_mostAt_56 (by decide) (fun w2 => ?_) (fun w2 => ?_)
        · refine gX_iinc dX12_mostAt_67 rfl (show (7 : Nat) < 9 from by decide) ⟨by omega, by omega⟩ (ls2 := [some (ga 775), some (gi ba), some (gi se), some (gi i), some (gi (gor se (gshl 1 ba))), some (gi be), some (gi mn), some (gi (r + 1)), some (gi (hvC S ba (gor se (gshl 1 ba)) i r))]) rfl ?_
          refine gX_goto (tgt := 34) dX12_mostAt_70 (by decide) ?_
          have ek : (64 - r).toNat = (64 - (r + 1)).toNat + 1 := by omega
          have e1 : mmF S ba (gor se (gshl 1 ba)) i (64 - r).toNat r be mn = mmF S ba (gor se (gshl 1 ba)) i (64 - (r + 1)).toNat (r + 1) be mn := by
            rw [ek]
            show mmF _ _ _ _ _ _ (if _ then _ else _) (if _ then _ else _) = _
            rw [if_neg (by omega), if_neg (by omega)]
          rw [e1] at hq2
          exact ih (r + 1) _ _ _ _ _ (by omega) (by omega) (by omega) hq2
        · refine gX_iload dX12_mostAt_59 rfl ?_
          refine gX_istore dX12_mostAt_61 (show (5 : Nat) < 9 from by decide) (ls2 := [some (ga 775), some (gi ba), some (gi se), some (gi i), some (gi (gor se (gshl 1 ba))), some (gi r), some (gi mn), some (gi r), some (gi (hvC S ba (gor se (gshl 1 ba)) i r))]) rfl ?_
          refine gX_iload dX12_mostAt_63 rfl ?_
          refine gX_istore dX12_mostAt_65 (show (6 : Nat) < 9 from by decide) (ls2 := [some (ga 775), some (gi ba), some (gi se), some (gi i), some (gi (gor se (gshl 1 ba))), some (gi r), some (gi (hvC S ba (gor se (gshl 1 ba)) i r)), some (gi r), some (gi (hvC S ba (gor se (gshl 1 ba)) i r))]) rfl ?_
          refine gX_iinc dX12_mostAt_67 rfl (show (7 : Nat) < 9 from by decide) ⟨by omega, by omega⟩ (ls2 := [some (ga 775), some (gi ba), some (gi se), some (gi i), some (gi (gor se (gshl 1 ba))), some (gi r), some (gi (hvC S ba (gor se (gshl 1 ba)) i r)), some (gi (r + 1)), some (gi (hvC S ba (gor se (gshl 1 ba)) i r))]) rfl ?_
          refine gX_goto (tgt := 34) dX12_mostAt_70 (by decide) ?_
          have ek : (64 - r).toNat = (64 - (r + 1)).toNat + 1 := by omega
          have e1 : mmF S ba (gor se (gshl 1 ba)) i (64 - r).toNat r be mn = mmF S ba (gor se (gshl 1 ba)) i (64 - (r + 1)).toNat (r + 1) r (hvC S ba (gor se (gshl 1 ba)) i r) := by
            rw [ek]
            show mmF _ _ _ _ _ _ (if _ then _ else _) (if _ then _ else _) = _
            rw [if_pos (by omega), if_pos (by omega)]
          rw [e1] at hq2
          exact ih (r + 1) _ _ _ _ _ (by omega) (by omega) (by omega) hq2
  refine gX_iloadn dX12_mostAt_0 rfl ?_
  refine gX_iconst dX12_mostAt_1 ⟨by decide, by decide⟩ ?_
  refine gX_iloadn dX12_mostAt_2 rfl ?_
  refine gX_ishl dX12_mostAt_3 ?_
  refine gX_ior dX12_mostAt_4 ?_
  refine gX_istore dX12_mostAt_5 (show (4 : Nat) < 9 from by decide) (ls2 := [some (ga 775), some (gi ba), some (gi se), some (gi i), some (gi (gor se (gshl 1 ba))), none, none, none, none]) rfl ?_
  refine gX_aloadn dX12_mostAt_7 rfl ?_
  refine gX_gR 60 dX12_mostAt_8 fdX12_135 rfl rfl hM.1 (mR60 hM) ?_
  refine gX_bipush dX12_mostAt_11 (by decide) ⟨by decide, by decide⟩ ?_
  refine gX_iloadn dX12_mostAt_13 rfl ?_
  refine gX_imul dX12_mostAt_14 ⟨by omega, by omega⟩ ?_
  refine gX_iloadn dX12_mostAt_15 rfl ?_
  refine gX_iadd dX12_mostAt_16 ⟨by omega, by omega⟩ ?_
  refine gX_iald dX12_mostAt_17 (mA60 hM) (by omega) (by omega) ?_
  rw [hrd ba i (by omega) (by omega) (Or.inl rfl) hi.1 hi.2]
  refine gX_istore dX12_mostAt_18 (show (5 : Nat) < 9 from by decide) (ls2 := [some (ga 775), some (gi ba), some (gi se), some (gi i), some (gi (gor se (gshl 1 ba))), some (gi (rdg S ba ba i)), none, none, none]) rfl ?_
  refine gX_aloadn dX12_mostAt_20 rfl ?_
  refine gX_iload dX12_mostAt_21 rfl ?_
  refine gX_iloadn dX12_mostAt_23 rfl ?_
  refine gX_iload dX12_mostAt_24 rfl ?_
  refine gX_virt (J := iX12_having) (av := [gi (gor se (gshl 1 ba)), gi i, gi (rdg S ba ba i)]) (a := 775) (st := []) dX12_mostAt_26 lkX12_431 kX12_having vX12_having (gFit_m (by decide)) hM.1 rfl rfl (Nat.le_of_ble_eq_true rfl) (Nat.zero_le _) (Nat.zero_le _) rfl ?_
  refine m_having (ba := ba) hM hn hn1 ⟨by omega, by omega⟩ (fun b z0 z1 z2 => hrd b i z0 z1 ((bt_gor hse ⟨by omega, by omega⟩ ⟨z0, by omega⟩).mp z2) hi.1 hi.2) ?_
  show gX l E _ 29 [some (ga 775), some (gi ba), some (gi se), some (gi i), some (gi (gor se (gshl 1 ba))), some (gi (rdg S ba ba i)), none, none, none] [gi (hvC S ba (gor se (gshl 1 ba)) i (rdg S ba ba i))] (K, R, V) _ _
  refine gX_istore dX12_mostAt_29 (show (6 : Nat) < 9 from by decide) (ls2 := [some (ga 775), some (gi ba), some (gi se), some (gi i), some (gi (gor se (gshl 1 ba))), some (gi (rdg S ba ba i)), some (gi (hvC S ba (gor se (gshl 1 ba)) i (rdg S ba ba i))), none, none]) rfl ?_
  refine gX_iconst dX12_mostAt_31 ⟨by decide, by decide⟩ ?_
  refine gX_istore dX12_mostAt_32 (show (7 : Nat) < 9 from by decide) (ls2 := [some (ga 775), some (gi ba), some (gi se), some (gi i), some (gi (gor se (gshl 1 ba))), some (gi (rdg S ba ba i)), some (gi (hvC S ba (gor se (gshl 1 ba)) i (rdg S ba ba i))), some (gi (-1)), none]) rfl ?_
  exact lp 66 (-1) _ _ none _ _ (by omega) (by omega) (by omega) hQ
end MD4
