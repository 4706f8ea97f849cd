/-! Book: cleared, copied, numbered anew. Written by wip/whole/tools/mk_book3.py. -/
def bmIs (V : Int → Int → Int) (B ex sc : Int) (ch tk : List Int) : Prop := V B 6 = ex ∧ V B 7 = sc ∧ rIs V (B + 6) 6 ch ∧ rIs V (B + 8) 6 tk
theorem bmIs.kept {V V' : Int → Int → Int} {B ex sc : Int} {ch tk : List Int} (h : bmIs V B ex sc ch tk) (hf : ∀ a, B ≤ a → a < B + 10 → V' a = V a) : bmIs V' B ex sc ch tk :=
  ⟨by rw [hf B (by omega) (by omega)]; exact h.1, by rw [hf B (by omega) (by omega)]; exact h.2.1, h.2.2.1.kept (hf _ (by omega) (by omega)) (hf _ (by omega) (by omega)), h.2.2.2.kept (hf _ (by omega) (by omega)) (hf _ (by omega) (by omega))⟩
def shG (q : gG) (b : Int) : gG := (q.1, q.2.1, q.2.2.1 + b, q.2.2.2.1 + b, q.2.2.2.2.1, q.2.2.2.2.2)
def hoG (q : gG) (h : Int) : gG := (q.1, h, q.2.2.1, q.2.2.2.1, q.2.2.2.2.1, q.2.2.2.2.2)
section BOOK3
variable {l : Launch} {E : gE} {d : Nat} {K : List gK} {R V : Int → Int → Int} {B C g h : Int} {Q : gQ} {tx : List Int} {gs : List gG} {q : gG}
theorem glIs.host {V : Int → Int → Int} {g x : Int} {q : gG} (hv : glIs V g q) : glIs (gup V g 2 x) g (hoG q x) := by
  obtain ⟨a1, a2, a3, a4, a5, a6, a7⟩ := hv
  exact ⟨by rw [gup_o (Or.inr (by omega))]; exact a1, gup_s, by rw [gup_o (Or.inr (by omega))]; exact a3, by rw [gup_o (Or.inr (by omega))]; exact a4, by rw [gup_o (Or.inr (by omega))]; exact a5, a6, a7.kept (gup_ne (by omega)) (gup_ne (by omega))⟩
set_option maxRecDepth 4000 in
theorem c_shift {b : Int} (hg : glK K R g) (hv : glIs V g q) (hb1 : in32 (q.2.2.1 + b)) (hb2 : in32 (q.2.2.2.1 + b)) (hQ : ∀ V', glIs V' g (shG q b) → gFr V V' g (g + 3) → Q none (K, R, V')) : gC l E (d + 1) iX3_shift [ga g, gi b] (K, R, V) Q := by
  refine gC_of kX3_shift (ls := [some (ga g), some (gi b)]) rfl (Nat.le_of_ble_eq_true rfl) ?_
  obtain ⟨a1, a2, a3, a4, a5, a6, a7⟩ := hv
  rw [← a3] at hb1
  rw [← a4] at hb2
  have e4 : (gup V g 3 (V g 3 + b)) g 4 = V g 4 := gup_o (Or.inr (by omega))
  refine gX_aloadn dX3_shift_0 rfl ?_
  refine gX_dup dX3_shift_1 rfl ?_
  refine gX_gI 3 dX3_shift_2 fdX3_27 rfl (Or.inl rfl) hg.1 ?_
  refine gX_iloadn dX3_shift_5 rfl ?_
  refine gX_iadd dX3_shift_6 hb1 ?_
  refine gX_pI 3 dX3_shift_7 fdX3_27 fpX3_27 rfl (Or.inl rfl) hg.1 ?_
  refine gX_aloadn dX3_shift_10 rfl ?_
  refine gX_dup dX3_shift_11 rfl ?_
  refine gX_gI 4 dX3_shift_12 fdX3_30 rfl (Or.inl rfl) hg.1 ?_
  refine gX_iloadn dX3_shift_15 rfl ?_
  refine gX_iadd dX3_shift_16 (by rw [e4]; exact hb2) ?_
  refine gX_pI 4 dX3_shift_17 fdX3_30 fpX3_30 rfl (Or.inl rfl) hg.1 ?_
  refine gX_vret dX3_shift_20 rfl ?_
  refine hQ _ ⟨?_, ?_, ?_, ?_, ?_, a6, (a7.kept (gup_ne (by omega)) (gup_ne (by omega))).kept (gup_ne (by omega)) (gup_ne (by omega))⟩ ((gup_fr (by omega) (by omega)).trans (gup_fr (by omega) (by omega)))
  · rw [gup_o (Or.inr (by omega)), gup_o (Or.inr (by omega))]; exact a1
  · rw [gup_o (Or.inr (by omega)), gup_o (Or.inr (by omega))]; exact a2
  · rw [gup_o (Or.inr (by omega)), gup_s, a3]; rfl
  · rw [gup_s, e4, a4]; rfl
  · rw [gup_o (Or.inr (by omega)), gup_o (Or.inr (by omega))]; exact a5
set_option maxRecDepth 4000 in
theorem c_glTake (hg : glK K R g) (hh : glK K R h) (hw : glIs V h q) (hQ : ∀ V', glIs V' g q → gFr V V' g (g + 3) → Q none (K, R, V')) : gC l E (d + 2) iX3_takeFrom [ga g, ga h] (K, R, V) Q := by
  refine gC_of kX3_takeFrom (ls := [some (ga g), some (ga h)]) rfl (Nat.le_of_ble_eq_true rfl) ?_
  obtain ⟨a1, a2, a3, a4, a5, a6, a7⟩ := hw
  have hh2 := hh.2.2
  have hn1 : h ≠ g + 1 := fun z => by have h9 := hh.1; rw [z, hg.2.2.1] at h9; cases h9
  have hn2 : h ≠ g + 1 + 1 := fun z => by have h9 := hh.1; rw [z, hg.2.2.2.1] at h9; cases h9
  refine gX_aloadn dX3_takeFrom_0 rfl ?_
  refine gX_gR 0 dX3_takeFrom_1 fdX3_14 rfl rfl hg.1 hg.2.1 ?_
  refine gX_aloadn dX3_takeFrom_4 rfl ?_
  refine gX_gR 0 dX3_takeFrom_5 fdX3_14 rfl rfl hh.1 hh.2.1 ?_
  refine gX_virt (J := iX6_takeFrom) (av := [ga (h + 1)]) (a := (g + 1)) (st := []) dX3_takeFrom_8 lkX3_37 kX6_takeFrom vX6_takeFrom (gFit_m (by decide)) hg.2.2.1 rfl rfl (Nat.le_of_ble_eq_true rfl) (Nat.zero_le _) (Nat.zero_le _) rfl ?_
  refine q_Row_takeFrom hg.2.2 hh.2.2 a7 a7.2.1 (fun V1 hx1 hf1 => ?_)
  show gX l E _ 11 [some (ga g), some (ga h)] [] (K, R, V1) _ _
  refine gX_aloadn dX3_takeFrom_11 rfl ?_
  refine gX_aloadn dX3_takeFrom_12 rfl ?_
  refine gX_gI 1 dX3_takeFrom_13 fdX3_20 rfl (Or.inl rfl) hh.1 ?_
  have r1 : V1 h 1 = q.1 := by
    rw [hf1 h hn1 hn2]; exact a1
  rw [r1]
  refine gX_pI 1 dX3_takeFrom_16 fdX3_20 fpX3_20 rfl (Or.inl rfl) hg.1 ?_
  refine gX_aloadn dX3_takeFrom_19 rfl ?_
  refine gX_aloadn dX3_takeFrom_20 rfl ?_
  refine gX_gI 2 dX3_takeFrom_21 fdX3_24 rfl (Or.inl rfl) hh.1 ?_
  have r2 : (gup V1 g 1 q.1) h 2 = q.2.1 := by
    rw [gup_o (Or.inr (by omega))]; rw [hf1 h hn1 hn2]; exact a2
  rw [r2]
  refine gX_pI 2 dX3_takeFrom_24 fdX3_24 fpX3_24 rfl (Or.inl rfl) hg.1 ?_
  refine gX_aloadn dX3_takeFrom_27 rfl ?_
  refine gX_aloadn dX3_takeFrom_28 rfl ?_
  refine gX_gI 3 dX3_takeFrom_29 fdX3_27 rfl (Or.inl rfl) hh.1 ?_
  have r3 : (gup (gup V1 g 1 q.1) g 2 q.2.1) h 3 = q.2.2.1 := by
    rw [gup_o (Or.inr (by omega)), gup_o (Or.inr (by omega))]; rw [hf1 h hn1 hn2]; exact a3
  rw [r3]
  refine gX_pI 3 dX3_takeFrom_32 fdX3_27 fpX3_27 rfl (Or.inl rfl) hg.1 ?_
  refine gX_aloadn dX3_takeFrom_35 rfl ?_
  refine gX_aloadn dX3_takeFrom_36 rfl ?_
  refine gX_gI 4 dX3_takeFrom_37 fdX3_30 rfl (Or.inl rfl) hh.1 ?_
  have r4 : (gup (gup (gup V1 g 1 q.1) g 2 q.2.1) g 3 q.2.2.1) h 4 = q.2.2.2.1 := by
    rw [gup_o (Or.inr (by omega)), gup_o (Or.inr (by omega)), gup_o (Or.inr (by omega))]; rw [hf1 h hn1 hn2]; exact a4
  rw [r4]
  refine gX_pI 4 dX3_takeFrom_40 fdX3_30 fpX3_30 rfl (Or.inl rfl) hg.1 ?_
  refine gX_aloadn dX3_takeFrom_43 rfl ?_
  refine gX_aloadn dX3_takeFrom_44 rfl ?_
  refine gX_gI 5 dX3_takeFrom_45 fdX3_33 rfl (Or.inr rfl) hh.1 ?_
  have r5 : (gup (gup (gup (gup V1 g 1 q.1) g 2 q.2.1) g 3 q.2.2.1) g 4 q.2.2.2.1) h 5 = q.2.2.2.2.1 := by
    rw [gup_o (Or.inr (by omega)), gup_o (Or.inr (by omega)), gup_o (Or.inr (by omega)), gup_o (Or.inr (by omega))]; rw [hf1 h hn1 hn2]; exact a5
  rw [r5]
  refine gX_pI 5 dX3_takeFrom_48 fdX3_33 fpX3_33 rfl (Or.inr ⟨rfl, by omega⟩) hg.1 ?_
  refine gX_vret dX3_takeFrom_51 rfl ?_
  refine hQ _ ⟨?_, ?_, ?_, ?_, gup_s, a6, ?_⟩ ?_
  · rw [gup_o (Or.inr (by omega)), gup_o (Or.inr (by omega)), gup_o (Or.inr (by omega)), gup_o (Or.inr (by omega))]; exact gup_s
  · rw [gup_o (Or.inr (by omega)), gup_o (Or.inr (by omega)), gup_o (Or.inr (by omega))]; exact gup_s
  · rw [gup_o (Or.inr (by omega)), gup_o (Or.inr (by omega))]; exact gup_s
  · rw [gup_o (Or.inr (by omega))]; exact gup_s
  · refine hx1.kept ?_ ?_ <;> rw [gup_ne (by omega), gup_ne (by omega), gup_ne (by omega), gup_ne (by omega), gup_ne (by omega)]
  · intro a ha
    rw [gup_ne (by omega), gup_ne (by omega), gup_ne (by omega), gup_ne (by omega), gup_ne (by omega)]
    exact hf1 a (by omega) (by omega)
set_option maxRecDepth 4000 in
theorem c_bkClear (hB : bkK K R B) (hQ : ∀ V', bkIs V' B [] [] → bmIs V' B (-1) (-1) (List.replicate 6 0) (List.replicate 6 0) → gFr V V' B (B + 10) → Q none (K, R, V')) : gC l E (d + 3) iX1_clear [ga B] (K, R, V) Q := by
  refine gC_of kX1_clear (ls := [some (ga B)]) rfl (Nat.le_of_ble_eq_true rfl) ?_
  refine gX_aloadn dX1_clear_0 rfl ?_
  refine gX_gR 0 dX1_clear_1 fdX1_14 rfl rfl hB.1 hB.2.1 ?_
  refine gX_virt (J := iX6_clear) (av := []) (a := (B + 1)) (st := []) dX1_clear_4 lkX1_46 kX6_clear vX6_clear (gFit_m (by decide)) hB.2.2.2.2.2.2.1.1 rfl rfl (Nat.le_of_ble_eq_true rfl) (Nat.zero_le _) (Nat.zero_le _) rfl ?_
  refine q_Row_clear hB.2.2.2.2.2.2.1 (fun V1 hx1 hf1 => ?_)
  show gX l E _ 7 [some (ga B)] [] (K, R, V1) _ _
  refine gX_aloadn dX1_clear_7 rfl ?_
  refine gX_iconst dX1_clear_8 ⟨by decide, by decide⟩ ?_
  refine gX_pI 5 dX1_clear_9 fdX1_35 fpX1_35 rfl (Or.inl rfl) hB.1 ?_
  refine gX_aloadn dX1_clear_12 rfl ?_
  refine gX_iconst dX1_clear_13 ⟨by decide, by decide⟩ ?_
  refine gX_pI 6 dX1_clear_14 fdX1_39 fpX1_39 rfl (Or.inl rfl) hB.1 ?_
  refine gX_aloadn dX1_clear_17 rfl ?_
  refine gX_iconst dX1_clear_18 ⟨by decide, by decide⟩ ?_
  refine gX_pI 7 dX1_clear_19 fdX1_42 fpX1_42 rfl (Or.inl rfl) hB.1 ?_
  refine gX_aloadn dX1_clear_22 rfl ?_
  refine gX_gR 3 dX1_clear_23 fdX1_29 rfl rfl hB.1 hB.2.2.2.2.1 ?_
  refine gX_bipush dX1_clear_26 (by decide) ⟨by decide, by decide⟩ ?_
  refine gX_iconst dX1_clear_28 ⟨by decide, by decide⟩ ?_
  refine gX_virt (J := iX6_fill) (av := [gi 6, gi 0]) (a := (B + 6)) (st := []) dX1_clear_29 lkX1_49 kX6_fill vX6_fill (gFit_m (by decide)) hB.2.2.2.2.2.2.2.2.2.1.1 rfl rfl (Nat.le_of_ble_eq_true rfl) (Nat.zero_le _) (Nat.zero_le _) rfl ?_
  refine q_Row_fill hB.2.2.2.2.2.2.2.2.2.1 (by omega) (by omega) (fun V2 hx2 hf2 => ?_)
  show gX l E _ 32 [some (ga B)] [] (K, R, V2) _ _
  refine gX_aloadn dX1_clear_32 rfl ?_
  refine gX_gR 4 dX1_clear_33 fdX1_32 rfl rfl hB.1 hB.2.2.2.2.2.1 ?_
  refine gX_bipush dX1_clear_36 (by decide) ⟨by decide, by decide⟩ ?_
  refine gX_iconst dX1_clear_38 ⟨by decide, by decide⟩ ?_
  refine gX_virt (J := iX6_fill) (av := [gi 6, gi 0]) (a := (B + 8)) (st := []) dX1_clear_39 lkX1_49 kX6_fill vX6_fill (gFit_m (by decide)) hB.2.2.2.2.2.2.2.2.2.2.1.1 rfl rfl (Nat.le_of_ble_eq_true rfl) (Nat.zero_le _) (Nat.zero_le _) rfl ?_
  refine q_Row_fill hB.2.2.2.2.2.2.2.2.2.2.1 (by omega) (by omega) (fun V3 hx3 hf3 => ?_)
  show gX l E _ 42 [some (ga B)] [] (K, R, V3) _ _
  refine gX_vret dX1_clear_42 rfl ?_
  have f3 : ∀ k, V3 B k = (gup (gup (gup V1 B 5 0) B 6 (-1)) B 7 (-1)) B k := fun k => by rw [hf3 B (by omega) (by omega), hf2 B (by omega) (by omega)]
  refine hQ V3 ⟨?_, ?_, Nat.zero_le _, fun k q hk => by simp at hk⟩ ⟨?_, ?_, ?_, hx3⟩ ?_
  · refine hx1.kept ?_ ?_ <;> rw [hf3 _ (by omega) (by omega), hf2 _ (by omega) (by omega), gup_ne (by omega), gup_ne (by omega), gup_ne (by omega)]
  · rw [f3, gup_o (Or.inr (by omega)), gup_o (Or.inr (by omega))]; exact gup_s
  · rw [f3, gup_o (Or.inr (by omega))]; exact gup_s
  · rw [f3]; exact gup_s
  · exact hx2.kept (hf3 _ (by omega) (by omega)) (hf3 _ (by omega) (by omega))
  · intro a ha
    rw [hf3 a (by omega) (by omega), hf2 a (by omega) (by omega), gup_ne (by omega), gup_ne (by omega), gup_ne (by omega)]
    exact hf1 a (by omega) (by omega)
set_option maxRecDepth 4000 in
theorem c_bkTake (hB : bkK K R B) (hC : bkK K R C) (hb : bkIs V C tx gs) (hd1 : C + 70 ≤ B ∨ B + 70 ≤ C) (hQ : ∀ V', bkIs V' B tx gs → bmIs V' B (-1) (-1) (List.replicate 6 0) (List.replicate 6 0) → gFr V V' B (B + 70) → Q none (K, R, V')) : gC l E (d + 4) iX1_takeFrom [ga B, ga C] (K, R, V) Q := by
  refine gC_of kX1_takeFrom (ls := [some (ga B), some (ga C), none, none, none]) rfl (Nat.le_of_ble_eq_true rfl) ?_
  have h20 := hb.2.2.1
  have lp : ∀ (jj : Nat) (i : Int) (j3 j4 : Option gV) (V1 : Int → Int → Int) (bc bs : Nat), gs.length - i < (jj : Int) → 0 ≤ i → i ≤ gs.length → bkIs V1 B tx (gs.take i.toNat) → bmIs V1 B (-1) (-1) (List.replicate 6 0) (List.replicate 6 0) → bkIs V1 C tx gs → gFr V V1 B (B + 70) → gX l E (gFm E (d + 4) iX1_takeFrom Q) 17 [some (ga B), some (ga C), some (gi i), j3, j4] [] (K, R, V1) bc bs := by
    intro jj
    induction jj with
    | zero =>
      intro i j3 j4 V1 bc bs hj q0 q1 hb1 hm1 hc1 hf1
      exfalso; omega
    | succ jj ih =>
      intro i j3 j4 V1 bc bs hj q0 q1 hb1 hm1 hc1 hf1
      have hcn := hc1.2.1
      refine gX_iloadn dX1_takeFrom_17 rfl ?_
      refine gX_aloadn dX1_takeFrom_18 rfl ?_
      refine gX_gI 5 dX1_takeFrom_19 fdX1_35 rfl (Or.inl rfl) hC.1 ?_
      refine gX_icmpge (tgt := 80) dX1_takeFrom_22 (by decide) (fun w1 => ?_) (fun w1 => ?_)
      · refine gX_vret dX1_takeFrom_80 rfl ?_
        have ei : gs.take i.toNat = gs := List.take_of_length_le (by omega)
        rw [ei] at hb1
        exact hQ V1 hb1 hm1 hf1
      · refine gX_aloadn dX1_takeFrom_25 rfl ?_
        refine gX_iloadn dX1_takeFrom_26 rfl ?_
        refine gX_virt (J := iX1_glossAt) (av := [gi i]) (a := C) (st := []) dX1_takeFrom_27 lkX1_58 kX1_glossAt vX1_glossAt (gFit_m (by decide)) hC.1 rfl rfl (Nat.le_of_ble_eq_true rfl) (Nat.zero_le _) (Nat.zero_le _) rfl ?_
        refine c_glossAt hC hc1 q0 (by omega) ?_
        show gX l E _ 30 [some (ga B), some (ga C), some (gi i), j3, j4] [ga (C + 10 + 3 * i)] (K, R, V1) _ _
        refine gX_astoren dX1_takeFrom_30 (show (3 : Nat) < 5 from by decide) (ls2 := [some (ga B), some (ga C), some (gi i), some (ga (C + 10 + 3 * i)), j4]) rfl ?_
        refine gX_iloadn dX1_takeFrom_31 rfl ?_
        refine gX_aloadn dX1_takeFrom_32 rfl ?_
        refine gX_gR 1 dX1_takeFrom_33 fdX1_22 rfl rfl hB.1 hB.2.2.1 ?_
        refine gX_alen dX1_takeFrom_36 hB.2.2.2.2.2.2.2.1 (by decide) (by omega) ?_
        refine gX_icmpge (tgt := 49) dX1_takeFrom_37 (by decide) (fun w2 => ?_) (fun w2 => ?_)
        · exfalso; omega
        · refine gX_aloadn dX1_takeFrom_40 rfl ?_
          refine gX_gR 1 dX1_takeFrom_41 fdX1_22 rfl rfl hB.1 hB.2.2.1 ?_
          refine gX_iloadn dX1_takeFrom_44 rfl ?_
          refine gX_aald dX1_takeFrom_45 hB.2.2.2.2.2.2.2.1 rfl (by omega) (by omega) (hB.2.2.2.2.2.2.2.2.2.2.2 i q0 (by omega)).1 ?_
          refine gX_goto (tgt := 50) dX1_takeFrom_46 (by decide) ?_
          refine gX_astore dX1_takeFrom_50 (show (4 : Nat) < 5 from by decide) (ls2 := [some (ga B), some (ga C), some (gi i), some (ga (C + 10 + 3 * i)), some (ga (B + 10 + 3 * i))]) rfl ?_
          refine gX_aloadn dX1_takeFrom_52 rfl ?_
          refine gX_ifnull (tgt := 74) dX1_takeFrom_53 (by decide) (fun w3 => absurd (kd_pos (hC.2.2.2.2.2.2.2.2.2.2.2 i q0 (by omega)).2.1) (by omega)) (fun w3 => ?_)
          refine gX_aload dX1_takeFrom_56 rfl ?_
          refine gX_ifnull (tgt := 74) dX1_takeFrom_58 (by decide) (fun w4 => absurd (kd_pos (hB.2.2.2.2.2.2.2.2.2.2.2 i q0 (by omega)).2.1) (by omega)) (fun w4 => ?_)
          refine gX_aload dX1_takeFrom_61 rfl ?_
          refine gX_aloadn dX1_takeFrom_63 rfl ?_
          refine gX_virt (J := iX3_takeFrom) (av := [ga (C + 10 + 3 * i)]) (a := (B + 10 + 3 * i)) (st := []) dX1_takeFrom_64 lkX1_62 kX3_takeFrom vX3_takeFrom (gFit_m (by decide)) (hB.2.2.2.2.2.2.2.2.2.2.2 i q0 (by omega)).2.1 rfl rfl (Nat.le_of_ble_eq_true rfl) (Nat.zero_le _) (Nat.zero_le _) rfl ?_
          refine c_glTake (hB.2.2.2.2.2.2.2.2.2.2.2 i q0 (by omega)).2 (hC.2.2.2.2.2.2.2.2.2.2.2 i q0 (by omega)).2 (hc1.gl q0 (by omega)) (fun V2 hv2 hf2 => ?_)
          show gX l E _ 67 [some (ga B), some (ga C), some (gi i), some (ga (C + 10 + 3 * i)), some (ga (B + 10 + 3 * i))] [] (K, R, V2) _ _
          refine gX_aloadn dX1_takeFrom_67 rfl ?_
          refine gX_iloadn dX1_takeFrom_68 rfl ?_
          refine gX_iconst dX1_takeFrom_69 ⟨by decide, by decide⟩ ?_
          refine gX_iadd dX1_takeFrom_70 ⟨by omega, by omega⟩ ?_
          refine gX_pI 5 dX1_takeFrom_71 fdX1_35 fpX1_35 rfl (Or.inl rfl) hB.1 ?_
          refine gX_iinc dX1_takeFrom_74 rfl (show (2 : Nat) < 5 from by decide) ⟨by omega, by omega⟩ (ls2 := [some (ga B), some (ga C), some (gi (i + 1)), some (ga (C + 10 + 3 * i)), some (ga (B + 10 + 3 * i))]) rfl ?_
          refine gX_goto (tgt := 17) dX1_takeFrom_77 (by decide) ?_
          have hcn := hc1.2.1
          have hlt : i.toNat < gs.length := by omega
          refine ih (i + 1) _ _ (gup V2 B 5 (i + 1)) _ _ (by omega) (by omega) (by omega) ?_ ?_ ?_ ?_
          · refine ⟨?_, ?_, by rw [List.length_take]; omega, fun k q2 hk => ?_⟩
            · refine hb1.1.kept ?_ ?_ <;> rw [gup_ne (by omega), hf2 _ (by omega)]
            · rw [gup_s, List.length_take]; omega
            · have hkl := (List.getElem?_eq_some_iff.mp hk).1
              rw [List.length_take] at hkl
              rw [List.getElem?_take_of_lt (by omega)] at hk
              by_cases c : (k : Int) = i
              · have h8 := gq_of hk
                rw [c] at h8
                rw [c, ← h8]
                exact hv2.kept (gup_ne (by omega)) (gup_ne (by omega)) (gup_ne (by omega))
              · have hk2 : (gs.take i.toNat)[k]? = some q2 := by rw [List.getElem?_take_of_lt (by omega)]; exact hk
                have h8 := hb1.2.2.2 k q2 hk2
                refine h8.kept ?_ ?_ ?_ <;> rw [gup_ne (by omega), hf2 _ (by omega)]
          · have h9 : (gup V2 B 5 (i + 1)) B 6 = V1 B 6 ∧ (gup V2 B 5 (i + 1)) B 7 = V1 B 7 := by
              rw [gup_o (Or.inr (by omega)), gup_o (Or.inr (by omega)), hf2 B (by omega)]
              exact ⟨rfl, rfl⟩
            refine ⟨by rw [h9.1]; exact hm1.1, by rw [h9.2]; exact hm1.2.1, hm1.2.2.1.kept ?_ ?_, hm1.2.2.2.kept ?_ ?_⟩ <;> rw [gup_ne (by omega), hf2 _ (by omega)]
          · refine hc1.kept fun a g1 g2 => ?_
            rw [gup_ne (by omega), hf2 a (by omega)]
          · exact hf1.trans ((hf2.wide (by omega) (by omega)).trans (gup_fr (by omega) (by omega)))
  refine gX_aloadn dX1_takeFrom_0 rfl ?_
  refine gX_virt (J := iX1_clear) (av := []) (a := B) (st := []) dX1_takeFrom_1 lkX1_53 kX1_clear vX1_clear (gFit_m (by decide)) hB.1 rfl rfl (Nat.le_of_ble_eq_true rfl) (Nat.zero_le _) (Nat.zero_le _) rfl ?_
  refine c_bkClear hB (fun V1 hb1 hm1 hf1 => ?_)
  show gX l E _ 4 [some (ga B), some (ga C), none, none, none] [] (K, R, V1) _ _
  refine gX_aloadn dX1_takeFrom_4 rfl ?_
  refine gX_gR 0 dX1_takeFrom_5 fdX1_14 rfl rfl hB.1 hB.2.1 ?_
  refine gX_aloadn dX1_takeFrom_8 rfl ?_
  refine gX_gR 0 dX1_takeFrom_9 fdX1_14 rfl rfl hC.1 hC.2.1 ?_
  refine gX_virt (J := iX6_takeFrom) (av := [ga (C + 1)]) (a := (B + 1)) (st := []) dX1_takeFrom_12 lkX1_54 kX6_takeFrom vX6_takeFrom (gFit_m (by decide)) hB.2.2.2.2.2.2.1.1 rfl rfl (Nat.le_of_ble_eq_true rfl) (Nat.zero_le _) (Nat.zero_le _) rfl ?_
  refine q_Row_takeFrom hB.2.2.2.2.2.2.1 hC.2.2.2.2.2.2.1 (hb.fr hf1 (by omega)).1 hb.1.2.1 (fun V2 hx2 hf2 => ?_)
  show gX l E _ 15 [some (ga B), some (ga C), none, none, none] [] (K, R, V2) _ _
  refine gX_iconst dX1_takeFrom_15 ⟨by decide, by decide⟩ ?_
  refine gX_istoren dX1_takeFrom_16 (show (2 : Nat) < 5 from by decide) (ls2 := [some (ga B), some (ga C), some (gi 0), none, none]) rfl ?_
  refine lp (gs.length + 1) 0 none none V2 _ _ (by omega) (by omega) (by omega) ?_ ?_ ?_ ?_
  · rw [show (0 : Int).toNat = 0 from rfl, List.take_zero]
    exact hb1.sett hx2 (fun a g1 g2 g3 g4 => hf2 a g3 (by omega))
  · refine ⟨?_, ?_, hm1.2.2.1.kept ?_ ?_, hm1.2.2.2.kept ?_ ?_⟩
    · rw [hf2 B (by omega) (by omega)]; exact hm1.1
    · rw [hf2 B (by omega) (by omega)]; exact hm1.2.1
    · exact hf2 _ (by omega) (by omega)
    · exact hf2 _ (by omega) (by omega)
    · exact hf2 _ (by omega) (by omega)
    · exact hf2 _ (by omega) (by omega)
  · exact (hb.fr hf1 (by omega)).kept fun a g1 g2 => hf2 a (by omega) (by omega)
  · exact (hf1.wide (by omega) (by omega)).trans (hf2.fr (by omega) (by omega))
theorem glIs_new {V1 : Int → Int → Int} {G a b c : Int} (h : rIs V1 (G + 1) 8 []) : glIs (gup (gup (gup (gup (gup V1 G 1 0) G 2 a) G 3 b) G 4 c) G 5 0) G (0, a, b, c, 0, []) := by
  refine ⟨?_, ?_, ?_, ?_, gup_s, Or.inl rfl, ?_⟩
  · rw [gup_o (Or.inr (by omega)), gup_o (Or.inr (by omega)), gup_o (Or.inr (by omega)), gup_o (Or.inr (by omega))]; exact gup_s
  · rw [gup_o (Or.inr (by omega)), gup_o (Or.inr (by omega)), gup_o (Or.inr (by omega))]; exact gup_s
  · rw [gup_o (Or.inr (by omega)), gup_o (Or.inr (by omega))]; exact gup_s
  · rw [gup_o (Or.inr (by omega))]; exact gup_s
  · refine h.kept ?_ ?_ <;> rw [gup_ne (by omega), gup_ne (by omega), gup_ne (by omega), gup_ne (by omega), gup_ne (by omega)]
set_option maxRecDepth 4000 in
theorem c_addGloss {a b c : Int} (hB : bkK K R B) (hb : bkIs V B tx gs) (h20 : gs.length + 1 ≤ 20) (hQ : ∀ V', bkIs V' B tx (gs ++ [(0, a, b, c, 0, [])]) → ((∀ k, k ≠ 5 → V' B k = V B k) ∧ ∀ a', B + 1 ≤ a' → a' < B + 10 → V' a' = V a') → gFr V V' B (B + 70) → Q (some (gi gs.length)) (K, R, V')) : gC l E (d + 2) iX1_addGloss [ga B, gi a, gi b, gi c] (K, R, V) Q := by
  refine gC_of kX1_addGloss (ls := [some (ga B), some (gi a), some (gi b), some (gi c), none]) rfl (Nat.le_of_ble_eq_true rfl) ?_
  have hcn := hb.2.1
  have hG := hB.2.2.2.2.2.2.2.2.2.2.2 (V B 5) (by omega) (by omega)
  generalize hGe : B + 10 + 3 * V B 5 = G at hG
  refine gX_aloadn dX1_addGloss_0 rfl ?_
  refine gX_gI 5 dX1_addGloss_1 fdX1_35 rfl (Or.inl rfl) hB.1 ?_
  refine gX_iflt (tgt := 31) dX1_addGloss_4 (by decide) (fun w1 => ?_) (fun w1 => ?_)
  · exfalso; omega
  · refine gX_aloadn dX1_addGloss_7 rfl ?_
    refine gX_gI 5 dX1_addGloss_8 fdX1_35 rfl (Or.inl rfl) hB.1 ?_
    refine gX_aloadn dX1_addGloss_11 rfl ?_
    refine gX_gR 1 dX1_addGloss_12 fdX1_22 rfl rfl hB.1 hB.2.2.1 ?_
    refine gX_alen dX1_addGloss_15 hB.2.2.2.2.2.2.2.1 (by decide) (by omega) ?_
    refine gX_icmpge (tgt := 31) dX1_addGloss_16 (by decide) (fun w2 => ?_) (fun w2 => ?_)
    · exfalso; omega
    · refine gX_aloadn dX1_addGloss_19 rfl ?_
      refine gX_gR 1 dX1_addGloss_20 fdX1_22 rfl rfl hB.1 hB.2.2.1 ?_
      refine gX_aloadn dX1_addGloss_23 rfl ?_
      refine gX_gI 5 dX1_addGloss_24 fdX1_35 rfl (Or.inl rfl) hB.1 ?_
      refine gX_aald dX1_addGloss_27 hB.2.2.2.2.2.2.2.1 rfl (by omega) (by omega) hG.1 ?_
      refine gX_goto (tgt := 32) dX1_addGloss_28 (by decide) ?_
      refine gX_astore dX1_addGloss_32 (show (4 : Nat) < 5 from by decide) (ls2 := [some (ga B), some (gi a), some (gi b), some (gi c), some (ga G)]) rfl ?_
      refine gX_aload dX1_addGloss_34 rfl ?_
      refine gX_ifnonnull (tgt := 41) dX1_addGloss_36 (by decide) (fun w3 => ?_) (fun w3 => absurd (kd_pos hG.2.1) (by omega))
      refine gX_aload dX1_addGloss_41 rfl ?_
      refine gX_gR 0 dX1_addGloss_43 fdX1_65 rfl rfl hG.2.1 hG.2.2.1 ?_
      refine gX_virt (J := iX6_clear) (av := []) (a := (G + 1)) (st := []) dX1_addGloss_46 lkX1_46 kX6_clear vX6_clear (gFit_m (by decide)) hG.2.2.2.1 rfl rfl (Nat.le_of_ble_eq_true rfl) (Nat.zero_le _) (Nat.zero_le _) rfl ?_
      refine q_Row_clear hG.2.2.2 (fun V1 hx1 hf1 => ?_)
      show gX l E _ 49 [some (ga B), some (gi a), some (gi b), some (gi c), some (ga G)] [] (K, R, V1) _ _
      refine gX_aload dX1_addGloss_49 rfl ?_
      refine gX_iconst dX1_addGloss_51 ⟨by decide, by decide⟩ ?_
      refine gX_pI 1 dX1_addGloss_52 fdX1_68 fpX1_68 rfl (Or.inl rfl) hG.2.1 ?_
      refine gX_aload dX1_addGloss_55 rfl ?_
      refine gX_iloadn dX1_addGloss_57 rfl ?_
      refine gX_pI 2 dX1_addGloss_58 fdX1_71 fpX1_71 rfl (Or.inl rfl) hG.2.1 ?_
      refine gX_aload dX1_addGloss_61 rfl ?_
      refine gX_iloadn dX1_addGloss_63 rfl ?_
      refine gX_pI 3 dX1_addGloss_64 fdX1_74 fpX1_74 rfl (Or.inl rfl) hG.2.1 ?_
      refine gX_aload dX1_addGloss_67 rfl ?_
      refine gX_iloadn dX1_addGloss_69 rfl ?_
      refine gX_pI 4 dX1_addGloss_70 fdX1_77 fpX1_77 rfl (Or.inl rfl) hG.2.1 ?_
      refine gX_aload dX1_addGloss_73 rfl ?_
      refine gX_iconst dX1_addGloss_75 ⟨by decide, by decide⟩ ?_
      refine gX_pI 5 dX1_addGloss_76 fdX1_80 fpX1_80 rfl (Or.inr ⟨rfl, Or.inl rfl⟩) hG.2.1 ?_
      refine gX_aloadn dX1_addGloss_79 rfl ?_
      refine gX_dup dX1_addGloss_80 rfl ?_
      refine gX_gI 5 dX1_addGloss_81 fdX1_35 rfl (Or.inl rfl) hB.1 ?_
      have e5 : (gup (gup (gup (gup (gup V1 G 1 0) G 2 a) G 3 b) G 4 c) G 5 0) B 5 = V B 5 := by rw [gup_ne (by omega), gup_ne (by omega), gup_ne (by omega), gup_ne (by omega), gup_ne (by omega), hf1 B (by omega) (by omega)]
      rw [e5]
      refine gX_iconst dX1_addGloss_84 ⟨by decide, by decide⟩ ?_
      refine gX_iadd dX1_addGloss_85 ⟨by omega, by omega⟩ ?_
      refine gX_pI 5 dX1_addGloss_86 fdX1_35 fpX1_35 rfl (Or.inl rfl) hB.1 ?_
      refine gX_aloadn dX1_addGloss_89 rfl ?_
      refine gX_gI 5 dX1_addGloss_90 fdX1_35 rfl (Or.inl rfl) hB.1 ?_
      rw [show (gup (gup (gup (gup (gup (gup V1 G 1 0) G 2 a) G 3 b) G 4 c) G 5 0) B 5 (V B 5 + 1)) B 5 = V B 5 + 1 from gup_s]
      refine gX_iconst dX1_addGloss_93 ⟨by decide, by decide⟩ ?_
      refine gX_isub dX1_addGloss_94 ⟨by omega, by omega⟩ ?_
      refine gX_iret dX1_addGloss_95 (Or.inl rfl) ?_
      have e0 : V B 5 + 1 - 1 = gs.length := by omega
      rw [e0]
      have key : ∀ a', B ≤ a' → a' < B + 70 → a' ≠ B → a' < G ∨ G + 3 ≤ a' → (gup (gup (gup (gup (gup (gup V1 G 1 0) G 2 a) G 3 b) G 4 c) G 5 0) B 5 (V B 5 + 1)) a' = V a' := fun a' g1 g2 g3 g4 => by
        rw [gup_ne g3, gup_ne (by omega), gup_ne (by omega), gup_ne (by omega), gup_ne (by omega), gup_ne (by omega), hf1 a' (by omega) (by omega)]
      refine hQ _ ⟨?_, ?_, ?_, fun k q hk => ?_⟩ ⟨?_, ?_⟩ ?_
      · exact hb.1.kept (key _ (by omega) (by omega) (by omega) (by omega)) (key _ (by omega) (by omega) (by omega) (by omega))
      · rw [gup_s, List.length_append]; simp; omega
      · rw [List.length_append]; exact h20
      · by_cases c1 : k < gs.length
        · rw [List.getElem?_append_left c1] at hk
          exact (hb.2.2.2 k q hk).kept (key _ (by omega) (by omega) (by omega) (by omega)) (key _ (by omega) (by omega) (by omega) (by omega)) (key _ (by omega) (by omega) (by omega) (by omega))
        · have hkl := (List.getElem?_eq_some_iff.mp hk).1
          rw [List.length_append] at hkl
          have ek : k = gs.length := by simp at hkl; omega
          subst ek
          rw [List.getElem?_append_right (Nat.le_refl _), Nat.sub_self] at hk
          cases hk
          rw [show B + 10 + 3 * (gs.length : Int) = G by omega]
          exact (glIs_new hx1).kept (gup_ne (by omega)) (gup_ne (by omega)) (gup_ne (by omega))
      · intro a' h9
        rw [gup_o (Or.inr h9), gup_ne (by omega), gup_ne (by omega), gup_ne (by omega), gup_ne (by omega), gup_ne (by omega), hf1 B (by omega) (by omega)]
      · intro a' g1 g2
        exact key a' (by omega) (by omega) (by omega) (by omega)
      · intro a' ha
        rw [gup_ne (by omega), gup_ne (by omega), gup_ne (by omega), gup_ne (by omega), gup_ne (by omega), gup_ne (by omega), hf1 a' (by omega) (by omega)]
end BOOK3
