/-! Scribe: turn, drop, into, move. Written by wip/whole/tools/mk_scribe3.py. -/
def b2i (b : Bool) : Int := if b = true then 1 else 0
theorem b2i_0 {b : Bool} (h : b2i b = 0) : b = false := by cases b; rfl; exact absurd h (by decide)
theorem b2i_1 {b : Bool} (h : ¬ b2i b = 0) : b = true := by cases b; exact absurd rfl h; rfl
section SCRIBE3
variable {l : Launch} {E : gE} {d : Nat} {K : List gK} {R V : Int → Int → Int} {B H g : Int} {Q : gQ} {tx : List Int} {gs : List gG} {q : gG} {ex sc rc wy : Int} {ch tk fr to fe ea : List Int}
set_option maxRecDepth 4000 in
theorem c_turn {s0 : cS} (hB : bkK K R B) (hH : hdK K R H) (hd1 : H + 9 ≤ B ∨ B + 70 ≤ H) (hs : fbIs V B ex sc s0) (hh : hdIs V H fr to fe ea rc wy) (hc : cBd s0.2.2.1 2000) (ht : cBd s0.2.2.2 2000) (hQ : ∀ V', fbIs V' B ex sc (tuS (lat ea 2) 41 0 s0) → gFr V V' B (B + 70) → Q none (K, R, V')) : gC l E (d + 4) iX7_turn [ga B, ga H] (K, R, V) Q := by
  refine gC_of kX7_turn (ls := [some (ga B), some (ga H), none, none, none, none, none]) rfl (Nat.le_of_ble_eq_true rfl) ?_
  have hxl0 := hs.1.1.2.1
  have lp : ∀ (jj : Nat) (i : Int) (j4 : Option gV) (j5 : Option gV) (j6 : Option gV) (V1 : Int → Int → Int) (s : cS) (bc bs : Nat), (s.1.length : Int) - i < (jj : Int) → 0 ≤ i → i ≤ s.1.length → s.1.length = s0.1.length → fbIs V1 B ex sc s → hdIs V1 H fr to fe ea rc wy → gFr V V1 B (B + 70) → s.2.1 = s0.2.1 → cBd s.2.2.1 (2000 + i) → cBd s.2.2.2 (2000 + i) → (∀ V', fbIs V' B ex sc (tuS (lat ea 2) jj i s) → gFr V V' B (B + 70) → Q none (K, R, V')) → gX l E (gFm E (d + 4) iX7_turn Q) 7 [some (ga B), some (ga H), some (ga (B + 1)), some (gi i), j4, j5, j6] [] (K, R, V1) bc bs := by
    intro jj
    induction jj with
    | zero =>
      intro i j4 j5 j6 V1 s bc bs hj q0 q1 q2 hs1 hh1 hf1 hg1 hc1 ht1 hq2
      exfalso; omega
    | succ jj ih =>
      intro i j4 j5 j6 V1 s bc bs hj q0 q1 q2 hs1 hh1 hf1 hg1 hc1 ht1 hq2
      have hxl := hs1.1.1.2.1
      refine gX_iloadn dX7_turn_7 rfl ?_
      refine gX_iconst dX7_turn_8 ⟨by decide, by decide⟩ ?_
      refine gX_iadd dX7_turn_9 ⟨by omega, by omega⟩ ?_
      refine gX_aloadn dX7_turn_10 rfl ?_
      refine gX_virt (J := iX6_length) (av := []) (a := (B + 1)) (st := [gi (i + 1)]) dX7_turn_11 lkX7_70 kX6_length vX6_length (gFit_m (by decide)) hB.2.2.2.2.2.2.1.1 rfl rfl (Nat.le_of_ble_eq_true rfl) (Nat.zero_le _) (Nat.zero_le _) rfl ?_
      refine q_Row_length hB.2.2.2.2.2.2.1 hs1.1.1 ?_
      show gX l E _ 14 [some (ga B), some (ga H), some (ga (B + 1)), some (gi i), j4, j5, j6] [gi s.1.length, gi (i + 1)] (K, R, V1) _ _
      refine gX_icmpge (tgt := 104) dX7_turn_14 (by decide) (fun w1 => ?_) (fun w1 => ?_)
      · refine gX_vret dX7_turn_104 rfl ?_
        have e1 : tuS (lat ea 2) (jj + 1) i s = s := by
          show (if _ then (if _ then (if _ then _ else _) else _) else _) = _
          rw [if_neg (by omega)]
        rw [e1] at hq2
        exact hq2 V1 hs1 hf1
      · refine gX_aloadn dX7_turn_17 rfl ?_
        refine gX_iloadn dX7_turn_18 rfl ?_
        refine gX_virt (J := iX6_at) (av := [gi i]) (a := (B + 1)) (st := []) dX7_turn_19 lkX7_29 kX6_at vX6_at (gFit_m (by decide)) hB.2.2.2.2.2.2.1.1 rfl rfl (Nat.le_of_ble_eq_true rfl) (Nat.zero_le _) (Nat.zero_le _) rfl ?_
        refine q_Row_at hB.2.2.2.2.2.2.1 hs1.1.1 ?_
        show gX l E _ 22 [some (ga B), some (ga H), some (ga (B + 1)), some (gi i), j4, j5, j6] [gi (lat s.1 i)] (K, R, V1) _ _
        refine gX_istore dX7_turn_22 (show (4 : Nat) < 7 from by decide) (ls2 := [some (ga B), some (ga H), some (ga (B + 1)), some (gi i), some (gi (lat s.1 i)), j5, j6]) rfl ?_
        refine gX_aloadn dX7_turn_24 rfl ?_
        refine gX_iloadn dX7_turn_25 rfl ?_
        refine gX_iconst dX7_turn_26 ⟨by decide, by decide⟩ ?_
        refine gX_iadd dX7_turn_27 ⟨by omega, by omega⟩ ?_
        refine gX_virt (J := iX6_at) (av := [gi (i + 1)]) (a := (B + 1)) (st := []) dX7_turn_28 lkX7_29 kX6_at vX6_at (gFit_m (by decide)) hB.2.2.2.2.2.2.1.1 rfl rfl (Nat.le_of_ble_eq_true rfl) (Nat.zero_le _) (Nat.zero_le _) rfl ?_
        refine q_Row_at hB.2.2.2.2.2.2.1 hs1.1.1 ?_
        show gX l E _ 31 [some (ga B), some (ga H), some (ga (B + 1)), some (gi i), some (gi (lat s.1 i)), j5, j6] [gi (lat s.1 (i + 1))] (K, R, V1) _ _
        refine gX_istore dX7_turn_31 (show (5 : Nat) < 7 from by decide) (ls2 := [some (ga B), some (ga H), some (ga (B + 1)), some (gi i), some (gi (lat s.1 i)), some (gi (lat s.1 (i + 1))), j6]) rfl ?_
        refine gX_aloadn dX7_turn_33 rfl ?_
        refine gX_iloadn dX7_turn_34 rfl ?_
        refine gX_virt (J := iX1_isInSpanOfText) (av := [gi i]) (a := B) (st := []) dX7_turn_35 lkX7_139 kX1_isInSpanOfText vX1_isInSpanOfText (gFit_m (by decide)) hB.1 rfl rfl (Nat.le_of_ble_eq_true rfl) (Nat.zero_le _) (Nat.zero_le _) rfl ?_
        refine c_isInSpan hB hs1.1 ?_
        show gX l E _ 38 [some (ga B), some (ga H), some (ga (B + 1)), some (gi i), some (gi (lat s.1 i)), some (gi (lat s.1 (i + 1))), j6] [gi (b2i (inSp s.2.1 i))] (K, R, V1) _ _
        refine gX_ifne (tgt := 55) dX7_turn_38 (by decide) (fun w2 => ?_) (fun w2 => ?_)
        · refine gX_iconst dX7_turn_55 ⟨by decide, by decide⟩ ?_
          refine gX_istore dX7_turn_56 (show (6 : Nat) < 7 from by decide) (ls2 := [some (ga B), some (ga H), some (ga (B + 1)), some (gi i), some (gi (lat s.1 i)), some (gi (lat s.1 (i + 1))), some (gi 0)]) rfl ?_
          refine gX_iload dX7_turn_58 rfl ?_
          refine gX_iload dX7_turn_60 rfl ?_
          refine gX_icmpeq (tgt := 98) dX7_turn_62 (by decide) (fun w3 => ?_) (fun w3 => ?_)
          · refine gX_iinc dX7_turn_98 rfl (show (3 : Nat) < 7 from by decide) ⟨by omega, by omega⟩ (ls2 := [some (ga B), some (ga H), some (ga (B + 1)), some (gi (i + 1)), some (gi (lat s.1 i)), some (gi (lat s.1 (i + 1))), some (gi 0)]) rfl ?_
            refine gX_goto (tgt := 7) dX7_turn_101 (by decide) ?_
            have ec : tuC s i = false := by
              unfold tuC
              simp only [Bool.and_eq_false_iff, decide_eq_false_iff_not, Bool.not_eq_false']
              first | exact Or.inl (Or.inl (fun z => z (by assumption))) | exact Or.inl (Or.inr (b2i_1 (by assumption))) | exact Or.inr (b2i_1 (by assumption))
            have e1 : tuS (lat ea 2) (jj + 1) i s = tuS (lat ea 2) jj (i + 1) s := by
              show (if _ then (if _ then (if _ then _ else _) else _) else _) = _
              rw [if_pos (by omega), if_neg (by rw [ec]; decide)]
            rw [e1] at hq2
            exact ih (i + 1) _ _ _ V1 s _ _ (by omega) (by omega) (by omega) q2 hs1 hh1 hf1 hg1 (hc1.up (by omega)) (ht1.up (by omega)) hq2
          · refine gX_iload dX7_turn_65 rfl ?_
            refine gX_ifeq (tgt := 98) dX7_turn_67 (by decide) (fun w4 => ?_) (fun w4 => by exfalso; omega)
            refine gX_iinc dX7_turn_98 rfl (show (3 : Nat) < 7 from by decide) ⟨by omega, by omega⟩ (ls2 := [some (ga B), some (ga H), some (ga (B + 1)), some (gi (i + 1)), some (gi (lat s.1 i)), some (gi (lat s.1 (i + 1))), some (gi 0)]) rfl ?_
            refine gX_goto (tgt := 7) dX7_turn_101 (by decide) ?_
            have ec : tuC s i = false := by
              unfold tuC
              simp only [Bool.and_eq_false_iff, decide_eq_false_iff_not, Bool.not_eq_false']
              first | exact Or.inl (Or.inl (fun z => z (by assumption))) | exact Or.inl (Or.inr (b2i_1 (by assumption))) | exact Or.inr (b2i_1 (by assumption))
            have e1 : tuS (lat ea 2) (jj + 1) i s = tuS (lat ea 2) jj (i + 1) s := by
              show (if _ then (if _ then (if _ then _ else _) else _) else _) = _
              rw [if_pos (by omega), if_neg (by rw [ec]; decide)]
            rw [e1] at hq2
            exact ih (i + 1) _ _ _ V1 s _ _ (by omega) (by omega) (by omega) q2 hs1 hh1 hf1 hg1 (hc1.up (by omega)) (ht1.up (by omega)) hq2
        · refine gX_aloadn dX7_turn_41 rfl ?_
          refine gX_iloadn dX7_turn_42 rfl ?_
          refine gX_iconst dX7_turn_43 ⟨by decide, by decide⟩ ?_
          refine gX_iadd dX7_turn_44 ⟨by omega, by omega⟩ ?_
          refine gX_virt (J := iX1_isInSpanOfText) (av := [gi (i + 1)]) (a := B) (st := []) dX7_turn_45 lkX7_139 kX1_isInSpanOfText vX1_isInSpanOfText (gFit_m (by decide)) hB.1 rfl rfl (Nat.le_of_ble_eq_true rfl) (Nat.zero_le _) (Nat.zero_le _) rfl ?_
          refine c_isInSpan hB hs1.1 ?_
          show gX l E _ 48 [some (ga B), some (ga H), some (ga (B + 1)), some (gi i), some (gi (lat s.1 i)), some (gi (lat s.1 (i + 1))), j6] [gi (b2i (inSp s.2.1 (i + 1)))] (K, R, V1) _ _
          refine gX_ifne (tgt := 55) dX7_turn_48 (by decide) (fun w5 => ?_) (fun w5 => ?_)
          · refine gX_iconst dX7_turn_55 ⟨by decide, by decide⟩ ?_
            refine gX_istore dX7_turn_56 (show (6 : Nat) < 7 from by decide) (ls2 := [some (ga B), some (ga H), some (ga (B + 1)), some (gi i), some (gi (lat s.1 i)), some (gi (lat s.1 (i + 1))), some (gi 0)]) rfl ?_
            refine gX_iload dX7_turn_58 rfl ?_
            refine gX_iload dX7_turn_60 rfl ?_
            refine gX_icmpeq (tgt := 98) dX7_turn_62 (by decide) (fun w6 => ?_) (fun w6 => ?_)
            · refine gX_iinc dX7_turn_98 rfl (show (3 : Nat) < 7 from by decide) ⟨by omega, by omega⟩ (ls2 := [some (ga B), some (ga H), some (ga (B + 1)), some (gi (i + 1)), some (gi (lat s.1 i)), some (gi (lat s.1 (i + 1))), some (gi 0)]) rfl ?_
              refine gX_goto (tgt := 7) dX7_turn_101 (by decide) ?_
              have ec : tuC s i = false := by
                unfold tuC
                simp only [Bool.and_eq_false_iff, decide_eq_false_iff_not, Bool.not_eq_false']
                first | exact Or.inl (Or.inl (fun z => z (by assumption))) | exact Or.inl (Or.inr (b2i_1 (by assumption))) | exact Or.inr (b2i_1 (by assumption))
              have e1 : tuS (lat ea 2) (jj + 1) i s = tuS (lat ea 2) jj (i + 1) s := by
                show (if _ then (if _ then (if _ then _ else _) else _) else _) = _
                rw [if_pos (by omega), if_neg (by rw [ec]; decide)]
              rw [e1] at hq2
              exact ih (i + 1) _ _ _ V1 s _ _ (by omega) (by omega) (by omega) q2 hs1 hh1 hf1 hg1 (hc1.up (by omega)) (ht1.up (by omega)) hq2
            · refine gX_iload dX7_turn_65 rfl ?_
              refine gX_ifeq (tgt := 98) dX7_turn_67 (by decide) (fun w7 => ?_) (fun w7 => by exfalso; omega)
              refine gX_iinc dX7_turn_98 rfl (show (3 : Nat) < 7 from by decide) ⟨by omega, by omega⟩ (ls2 := [some (ga B), some (ga H), some (ga (B + 1)), some (gi (i + 1)), some (gi (lat s.1 i)), some (gi (lat s.1 (i + 1))), some (gi 0)]) rfl ?_
              refine gX_goto (tgt := 7) dX7_turn_101 (by decide) ?_
              have ec : tuC s i = false := by
                unfold tuC
                simp only [Bool.and_eq_false_iff, decide_eq_false_iff_not, Bool.not_eq_false']
                first | exact Or.inl (Or.inl (fun z => z (by assumption))) | exact Or.inl (Or.inr (b2i_1 (by assumption))) | exact Or.inr (b2i_1 (by assumption))
              have e1 : tuS (lat ea 2) (jj + 1) i s = tuS (lat ea 2) jj (i + 1) s := by
                show (if _ then (if _ then (if _ then _ else _) else _) else _) = _
                rw [if_pos (by omega), if_neg (by rw [ec]; decide)]
              rw [e1] at hq2
              exact ih (i + 1) _ _ _ V1 s _ _ (by omega) (by omega) (by omega) q2 hs1 hh1 hf1 hg1 (hc1.up (by omega)) (ht1.up (by omega)) hq2
          · refine gX_iconst dX7_turn_51 ⟨by decide, by decide⟩ ?_
            refine gX_goto (tgt := 56) dX7_turn_52 (by decide) ?_
            refine gX_istore dX7_turn_56 (show (6 : Nat) < 7 from by decide) (ls2 := [some (ga B), some (ga H), some (ga (B + 1)), some (gi i), some (gi (lat s.1 i)), some (gi (lat s.1 (i + 1))), some (gi 1)]) rfl ?_
            refine gX_iload dX7_turn_58 rfl ?_
            refine gX_iload dX7_turn_60 rfl ?_
            refine gX_icmpeq (tgt := 98) dX7_turn_62 (by decide) (fun w8 => ?_) (fun w8 => ?_)
            · refine gX_iinc dX7_turn_98 rfl (show (3 : Nat) < 7 from by decide) ⟨by omega, by omega⟩ (ls2 := [some (ga B), some (ga H), some (ga (B + 1)), some (gi (i + 1)), some (gi (lat s.1 i)), some (gi (lat s.1 (i + 1))), some (gi 1)]) rfl ?_
              refine gX_goto (tgt := 7) dX7_turn_101 (by decide) ?_
              have ec : tuC s i = false := by
                unfold tuC
                simp only [Bool.and_eq_false_iff, decide_eq_false_iff_not, Bool.not_eq_false']
                first | exact Or.inl (Or.inl (fun z => z (by assumption))) | exact Or.inl (Or.inr (b2i_1 (by assumption))) | exact Or.inr (b2i_1 (by assumption))
              have e1 : tuS (lat ea 2) (jj + 1) i s = tuS (lat ea 2) jj (i + 1) s := by
                show (if _ then (if _ then (if _ then _ else _) else _) else _) = _
                rw [if_pos (by omega), if_neg (by rw [ec]; decide)]
              rw [e1] at hq2
              exact ih (i + 1) _ _ _ V1 s _ _ (by omega) (by omega) (by omega) q2 hs1 hh1 hf1 hg1 (hc1.up (by omega)) (ht1.up (by omega)) hq2
            · refine gX_iload dX7_turn_65 rfl ?_
              refine gX_ifeq (tgt := 98) dX7_turn_67 (by decide) (fun w9 => by exfalso; omega) (fun w9 => ?_)
              refine gX_iconst dX7_turn_70 ⟨by decide, by decide⟩ ?_
              refine gX_aloadn dX7_turn_71 rfl ?_
              refine gX_aloadn dX7_turn_72 rfl ?_
              refine gX_stat (J := iX7_chance) (av := [gi 2, ga B, ga H]) (st := []) dX7_turn_73 lkX7_105 kX7_chance sX7_chance (gFit_m (by decide)) rfl (Nat.le_of_ble_eq_true rfl) (Nat.zero_le _) (Nat.zero_le _) rfl ?_
              refine c_chance hB hH hs1.2 hh1 (by omega) (by omega) (hc1.up (by omega)) (ht1.up (by omega)) (fun V2 hm2 hf2 => ?_)
              show gX l E _ 76 [some (ga B), some (ga H), some (ga (B + 1)), some (gi i), some (gi (lat s.1 i)), some (gi (lat s.1 (i + 1))), some (gi 1)] [gi (tkn (lat s.2.2.1 2 + 1) (lat ea 2))] (K, R, V2) _ _
              have o1 := tkn_01 (lat s.2.2.1 2 + 1) (lat ea 2)
              refine gX_ifeq (tgt := 98) dX7_turn_76 (by decide) (fun w10 => ?_) (fun w10 => ?_)
              · refine gX_iinc dX7_turn_98 rfl (show (3 : Nat) < 7 from by decide) ⟨by omega, by omega⟩ (ls2 := [some (ga B), some (ga H), some (ga (B + 1)), some (gi (i + 1)), some (gi (lat s.1 i)), some (gi (lat s.1 (i + 1))), some (gi 1)]) rfl ?_
                refine gX_goto (tgt := 7) dX7_turn_101 (by decide) ?_
                have ec : tuC s i = true := by
                  unfold tuC
                  simp only [Bool.and_eq_true, decide_eq_true_eq, Bool.not_eq_true']
                  exact ⟨⟨by assumption, b2i_0 (by assumption)⟩, b2i_0 (by assumption)⟩
                have e1 : tuS (lat ea 2) (jj + 1) i s = tuS (lat ea 2) jj (i + 1) (tcS 2 (lat ea 2) s) := by
                  show (if _ then (if _ then (if _ then _ else _) else _) else _) = _
                  rw [if_pos (by omega), if_pos ec, if_neg (by omega)]
                rw [e1] at hq2
                exact ih (i + 1) _ _ _ V2 (tcS 2 (lat ea 2) s) _ _ (by show (s.1.length : Int) - (i + 1) < _; omega) (by omega) (by show i + 1 ≤ (s.1.length : Int); omega) q2 ⟨hs1.1.m hf2, hm2⟩ (hh1.fr hf2 (by omega)) (hf1.trans (hf2.wide (by omega) (by omega))) hg1 ((tcS_c (h := 2) (m := lat ea 2) hc1 (by omega) (by omega)).up (by omega)) ((tcS_t (h := 2) (m := lat ea 2) ht1 (by omega) (by omega)).up (by omega)) hq2
              · refine gX_aloadn dX7_turn_79 rfl ?_
                refine gX_iloadn dX7_turn_80 rfl ?_
                refine gX_iload dX7_turn_81 rfl ?_
                refine gX_virt (J := iX6_put) (av := [gi i, gi (lat s.1 (i + 1))]) (a := (B + 1)) (st := []) dX7_turn_83 lkX7_60 kX6_put vX6_put (gFit_m (by decide)) hB.2.2.2.2.2.2.1.1 rfl rfl (Nat.le_of_ble_eq_true rfl) (Nat.zero_le _) (Nat.zero_le _) rfl ?_
                refine q_Row_put hB.2.2.2.2.2.2.1 (hs1.1.m hf2).1 (fun V3 hx3 hf3 => ?_)
                show gX l E _ 86 [some (ga B), some (ga H), some (ga (B + 1)), some (gi i), some (gi (lat s.1 i)), some (gi (lat s.1 (i + 1))), some (gi 1)] [] (K, R, V3) _ _
                refine gX_aloadn dX7_turn_86 rfl ?_
                refine gX_iloadn dX7_turn_87 rfl ?_
                refine gX_iconst dX7_turn_88 ⟨by decide, by decide⟩ ?_
                refine gX_iadd dX7_turn_89 ⟨by omega, by omega⟩ ?_
                refine gX_iload dX7_turn_90 rfl ?_
                refine gX_virt (J := iX6_put) (av := [gi (i + 1), gi (lat s.1 i)]) (a := (B + 1)) (st := []) dX7_turn_92 lkX7_60 kX6_put vX6_put (gFit_m (by decide)) hB.2.2.2.2.2.2.1.1 rfl rfl (Nat.le_of_ble_eq_true rfl) (Nat.zero_le _) (Nat.zero_le _) rfl ?_
                refine q_Row_put hB.2.2.2.2.2.2.1 hx3 (fun V4 hx4 hf4 => ?_)
                show gX l E _ 95 [some (ga B), some (ga H), some (ga (B + 1)), some (gi i), some (gi (lat s.1 i)), some (gi (lat s.1 (i + 1))), some (gi 1)] [] (K, R, V4) _ _
                refine gX_iinc dX7_turn_95 rfl (show (3 : Nat) < 7 from by decide) ⟨by omega, by omega⟩ (ls2 := [some (ga B), some (ga H), some (ga (B + 1)), some (gi (i + 1)), some (gi (lat s.1 i)), some (gi (lat s.1 (i + 1))), some (gi 1)]) rfl ?_
                refine gX_iinc dX7_turn_98 rfl (show (3 : Nat) < 7 from by decide) ⟨by omega, by omega⟩ (ls2 := [some (ga B), some (ga H), some (ga (B + 1)), some (gi ((i + 1) + 1)), some (gi (lat s.1 i)), some (gi (lat s.1 (i + 1))), some (gi 1)]) rfl ?_
                refine gX_goto (tgt := 7) dX7_turn_101 (by decide) ?_
                have ec : tuC s i = true := by
                  unfold tuC
                  simp only [Bool.and_eq_true, decide_eq_true_eq, Bool.not_eq_true']
                  exact ⟨⟨by assumption, b2i_0 (by assumption)⟩, b2i_0 (by assumption)⟩
                have e1 : tuS (lat ea 2) (jj + 1) i s = tuS (lat ea 2) jj (i + 2) (lput (lput s.1 i (lat s.1 (i + 1))) (i + 1) (lat s.1 i), (tcS 2 (lat ea 2) s).2) := by
                  show (if _ then (if _ then (if _ then _ else _) else _) else _) = _
                  rw [if_pos (by omega), if_pos ec, if_pos (by omega)]
                rw [e1] at hq2
                have el : (lput (lput s.1 i (lat s.1 (i + 1))) (i + 1) (lat s.1 i)).length = s.1.length := by rw [lput_len, lput_len]
                refine cast (by rw [show i + 1 + 1 = i + 2 by omega]) (ih (i + 2) _ _ _ V4 (lput (lput s.1 i (lat s.1 (i + 1))) (i + 1) (lat s.1 i), (tcS 2 (lat ea 2) s).2) _ _ (by show ((lput (lput s.1 i (lat s.1 (i + 1))) (i + 1) (lat s.1 i)).length : Int) - (i + 2) < _; omega) (by omega) (by show i + 2 ≤ ((lput (lput s.1 i (lat s.1 (i + 1))) (i + 1) (lat s.1 i)).length : Int); omega) (by show (lput (lput s.1 i (lat s.1 (i + 1))) (i + 1) (lat s.1 i)).length = _; omega) ⟨?_, ?_⟩ ?_ ?_ hg1 ((tcS_c (h := 2) (m := lat ea 2) hc1 (by omega) (by omega)).up (by omega)) ((tcS_t (h := 2) (m := lat ea 2) ht1 (by omega) (by omega)).up (by omega)) hq2)
                · exact (hs1.1.m hf2).sett hx4 (fun a g1 g2 g3 g4 => by rw [hf4 a g3 (by omega), hf3 a g3 (by omega)])
                · exact hm2.b (fun a ha => by rw [hf4 a (by omega) (by omega), hf3 a (by omega) (by omega)])
                · exact ((hh1.fr hf2 (by omega)).fr (hf3.fr (lo := B) (hi := B + 70) (by omega) (by omega)) (by omega)).fr (hf4.fr (lo := B) (hi := B + 70) (by omega) (by omega)) (by omega)
                · exact hf1.trans ((hf2.wide (by omega) (by omega)).trans ((hf3.fr (by omega) (by omega)).trans (hf4.fr (by omega) (by omega))))
  refine gX_aloadn dX7_turn_0 rfl ?_
  refine gX_gR 0 dX7_turn_1 fdX7_77 rfl rfl hB.1 hB.2.1 ?_
  refine gX_astoren dX7_turn_4 (show (2 : Nat) < 7 from by decide) (ls2 := [some (ga B), some (ga H), some (ga (B + 1)), none, none, none, none]) rfl ?_
  refine gX_iconst dX7_turn_5 ⟨by decide, by decide⟩ ?_
  refine gX_istoren dX7_turn_6 (show (3 : Nat) < 7 from by decide) (ls2 := [some (ga B), some (ga H), some (ga (B + 1)), some (gi 0), none, none, none]) rfl ?_
  exact lp 41 0 none none none V s0 _ _ (by omega) (by omega) (by omega) rfl hs hh gFr.rf rfl (hc.up (by omega)) (ht.up (by omega)) hQ
set_option maxRecDepth 4000 in
theorem c_drop {s0 : cS} (hB : bkK K R B) (hH : hdK K R H) (hd1 : H + 9 ≤ B ∨ B + 70 ≤ H) (hs : fbIs V B ex sc s0) (hh : hdIs V H fr to fe ea rc wy) (hc : cBd s0.2.2.1 2000) (ht : cBd s0.2.2.2 2000) (hQ : ∀ V', fbIs V' B ex sc (drS (lat ea 4) s0.2.1.length 0 s0) → gFr V V' B (B + 70) → Q none (K, R, V')) : gC l E (d + 4) iX7_drop [ga B, ga H] (K, R, V) Q := by
  refine gC_of kX7_drop (ls := [some (ga B), some (ga H), none, none]) rfl (Nat.le_of_ble_eq_true rfl) ?_
  have h20 := hs.1.2.2.1
  have lp : ∀ (jj : Nat) (i : Int) (j3 : Option gV) (V1 : Int → Int → Int) (s : cS) (bc bs : Nat), (s.2.1.length : Int) - i < (jj : Int) → 0 ≤ i → i ≤ s.2.1.length → s.2.1.length = s0.2.1.length → fbIs V1 B ex sc s → hdIs V1 H fr to fe ea rc wy → gFr V V1 B (B + 70) → cBd s.2.2.1 (2000 + i) → cBd s.2.2.2 (2000 + i) → (∀ V', fbIs V' B ex sc (drS (lat ea 4) (s.2.1.length - i.toNat) i.toNat s) → gFr V V' B (B + 70) → Q none (K, R, V')) → gX l E (gFm E (d + 4) iX7_drop Q) 2 [some (ga B), some (ga H), some (gi i), j3] [] (K, R, V1) bc bs := by
    intro jj
    induction jj with
    | zero =>
      intro i j3 V1 s bc bs hj q0 q1 q2 hs1 hh1 hf1 hc1 ht1 hq2
      exfalso; omega
    | succ jj ih =>
      intro i j3 V1 s bc bs hj q0 q1 q2 hs1 hh1 hf1 hc1 ht1 hq2
      have hcn := hs1.1.2.1
      have h20 := hs1.1.2.2.1
      refine gX_iloadn dX7_drop_2 rfl ?_
      refine gX_aloadn dX7_drop_3 rfl ?_
      refine gX_gI 5 dX7_drop_4 fdX7_84 rfl (Or.inl rfl) hB.1 ?_
      refine gX_icmpge (tgt := 47) dX7_drop_7 (by decide) (fun w1 => ?_) (fun w1 => ?_)
      · refine gX_vret dX7_drop_47 rfl ?_
        have ei : s.2.1.length - i.toNat = 0 := by omega
        rw [ei] at hq2
        exact hq2 V1 hs1 hf1
      · refine gX_aloadn dX7_drop_10 rfl ?_
        refine gX_iloadn dX7_drop_11 rfl ?_
        refine gX_virt (J := iX1_glossAt) (av := [gi i]) (a := B) (st := []) dX7_drop_12 lkX7_116 kX1_glossAt vX1_glossAt (gFit_m (by decide)) hB.1 rfl rfl (Nat.le_of_ble_eq_true rfl) (Nat.zero_le _) (Nat.zero_le _) rfl ?_
        refine c_glossAt hB hs1.1 q0 (by omega) ?_
        show gX l E _ 15 [some (ga B), some (ga H), some (gi i), j3] [ga (B + 10 + 3 * i)] (K, R, V1) _ _
        refine gX_astoren dX7_drop_15 (show (3 : Nat) < 4 from by decide) (ls2 := [some (ga B), some (ga H), some (gi i), some (ga (B + 10 + 3 * i))]) rfl ?_
        refine gX_aloadn dX7_drop_16 rfl ?_
        refine gX_ifnull (tgt := 41) dX7_drop_17 (by decide) (fun w2 => absurd (kd_pos (hB.2.2.2.2.2.2.2.2.2.2.2 i q0 (by omega)).2.1) (by omega)) (fun w2 => ?_)
        refine gX_aloadn dX7_drop_20 rfl ?_
        refine gX_gI 5 dX7_drop_21 fdX7_172 rfl (Or.inr rfl) (hB.2.2.2.2.2.2.2.2.2.2.2 i q0 (by omega)).2.1 ?_
        rw [(hs1.1.gl q0 (by omega)).2.2.2.2.1]
        refine gX_ifne (tgt := 41) dX7_drop_24 (by decide) (fun w3 => ?_) (fun w3 => ?_)
        · refine gX_iinc dX7_drop_41 rfl (show (2 : Nat) < 4 from by decide) ⟨by omega, by omega⟩ (ls2 := [some (ga B), some (ga H), some (gi (i + 1)), some (ga (B + 10 + 3 * i))]) rfl ?_
          refine gX_goto (tgt := 2) dX7_drop_44 (by decide) ?_
          have ek : s.2.1.length - i.toNat = (s.2.1.length - (i + 1).toNat) + 1 := by omega
          have e1 : drS (lat ea 4) (s.2.1.length - i.toNat) i.toNat s = drS (lat ea 4) (s.2.1.length - (i + 1).toNat) (i + 1).toNat s := by
            rw [ek]
            show (if _ then (if _ then _ else _) else _) = _
            rw [Int.toNat_of_nonneg q0, show i.toNat + 1 = (i + 1).toNat by omega]
            rw [if_neg (by omega)]
          rw [e1] at hq2
          exact ih (i + 1) _ V1 s _ _ (by omega) (by omega) (by omega) q2 hs1 hh1 hf1 (hc1.up (by omega)) (ht1.up (by omega)) hq2
        · refine gX_iconst dX7_drop_27 ⟨by decide, by decide⟩ ?_
          refine gX_aloadn dX7_drop_28 rfl ?_
          refine gX_aloadn dX7_drop_29 rfl ?_
          refine gX_stat (J := iX7_chance) (av := [gi 4, ga B, ga H]) (st := []) dX7_drop_30 lkX7_105 kX7_chance sX7_chance (gFit_m (by decide)) rfl (Nat.le_of_ble_eq_true rfl) (Nat.zero_le _) (Nat.zero_le _) rfl ?_
          refine c_chance hB hH hs1.2 hh1 (by omega) (by omega) (hc1.up (by omega)) (ht1.up (by omega)) (fun V2 hm2 hf2 => ?_)
          show gX l E _ 33 [some (ga B), some (ga H), some (gi i), some (ga (B + 10 + 3 * i))] [gi (tkn (lat s.2.2.1 4 + 1) (lat ea 4))] (K, R, V2) _ _
          have o1 := tkn_01 (lat s.2.2.1 4 + 1) (lat ea 4)
          refine gX_ifeq (tgt := 41) dX7_drop_33 (by decide) (fun w4 => ?_) (fun w4 => ?_)
          · refine gX_iinc dX7_drop_41 rfl (show (2 : Nat) < 4 from by decide) ⟨by omega, by omega⟩ (ls2 := [some (ga B), some (ga H), some (gi (i + 1)), some (ga (B + 10 + 3 * i))]) rfl ?_
            refine gX_goto (tgt := 2) dX7_drop_44 (by decide) ?_
            have ek : s.2.1.length - i.toNat = (s.2.1.length - (i + 1).toNat) + 1 := by omega
            have e1 : drS (lat ea 4) (s.2.1.length - i.toNat) i.toNat s = drS (lat ea 4) (s.2.1.length - (i + 1).toNat) (i + 1).toNat (tcS 4 (lat ea 4) s) := by
              rw [ek]
              show (if _ then (if _ then _ else _) else _) = _
              rw [Int.toNat_of_nonneg q0, show i.toNat + 1 = (i + 1).toNat by omega]
              rw [if_pos (by omega), if_neg (by omega)]
            rw [e1] at hq2
            exact ih (i + 1) _ V2 (tcS 4 (lat ea 4) s) _ _ (by show (s.2.1.length : Int) - (i + 1) < _; omega) (by omega) (by show i + 1 ≤ (s.2.1.length : Int); omega) q2 ⟨hs1.1.m hf2, hm2⟩ (hh1.fr hf2 (by omega)) (hf1.trans (hf2.wide (by omega) (by omega))) ((tcS_c (h := 4) (m := lat ea 4) hc1 (by omega) (by omega)).up (by omega)) ((tcS_t (h := 4) (m := lat ea 4) ht1 (by omega) (by omega)).up (by omega)) hq2
          · refine gX_aloadn dX7_drop_36 rfl ?_
            refine gX_iloadn dX7_drop_37 rfl ?_
            refine gX_virt (J := iX1_takeAway) (av := [gi i]) (a := B) (st := []) dX7_drop_38 lkX7_136 kX1_takeAway vX1_takeAway (gFit_m (by decide)) hB.1 rfl rfl (Nat.le_of_ble_eq_true rfl) (Nat.zero_le _) (Nat.zero_le _) rfl ?_
            refine c_takeAway hB (hs1.1.m hf2) q0 (by omega) (fun V3 hb3 hf3 => ?_)
            show gX l E _ 41 [some (ga B), some (ga H), some (gi i), some (ga (B + 10 + 3 * i))] [] (K, R, V3) _ _
            refine gX_iinc dX7_drop_41 rfl (show (2 : Nat) < 4 from by decide) ⟨by omega, by omega⟩ (ls2 := [some (ga B), some (ga H), some (gi (i + 1)), some (ga (B + 10 + 3 * i))]) rfl ?_
            refine gX_goto (tgt := 2) dX7_drop_44 (by decide) ?_
            have ek : s.2.1.length - i.toNat = (s.2.1.length - (i + 1).toNat) + 1 := by omega
            have e1 : drS (lat ea 4) (s.2.1.length - i.toNat) i.toNat s = drS (lat ea 4) (s.2.1.length - (i + 1).toNat) (i + 1).toNat (s.1, awayG s.2.1 i, (tcS 4 (lat ea 4) s).2.2) := by
              rw [ek]
              show (if _ then (if _ then _ else _) else _) = _
              rw [Int.toNat_of_nonneg q0, show i.toNat + 1 = (i + 1).toNat by omega]
              rw [if_pos (by omega), if_pos (by omega)]
            rw [e1] at hq2
            have el := awayG_len s.2.1 i
            refine ih (i + 1) _ V3 (s.1, awayG s.2.1 i, (tcS 4 (lat ea 4) s).2.2) _ _ (by show ((awayG s.2.1 i).length : Int) - (i + 1) < _; omega) (by omega) (by show i + 1 ≤ ((awayG s.2.1 i).length : Int); omega) (by show (awayG s.2.1 i).length = _; omega) ⟨hb3, hm2.b (hf3.b (by omega) (by omega))⟩ ((hh1.fr hf2 (by omega)).fr (hf3.wide (lo2 := B) (by omega) (Int.le_refl _)) (by omega)) (hf1.trans ((hf2.wide (by omega) (by omega)).trans (hf3.wide (by omega) (by omega)))) ((tcS_c (h := 4) (m := lat ea 4) hc1 (by omega) (by omega)).up (by omega)) ((tcS_t (h := 4) (m := lat ea 4) ht1 (by omega) (by omega)).up (by omega)) ?_
            show ∀ V', fbIs V' B ex sc (drS (lat ea 4) ((awayG s.2.1 i).length - (i + 1).toNat) (i + 1).toNat _) → _
            rw [el]
            exact hq2
  refine gX_iconst dX7_drop_0 ⟨by decide, by decide⟩ ?_
  refine gX_istoren dX7_drop_1 (show (2 : Nat) < 4 from by decide) (ls2 := [some (ga B), some (ga H), some (gi 0), none]) rfl ?_
  exact lp (s0.2.1.length + 1) 0 none V s0 _ _ (by omega) (by omega) (by omega) rfl hs hh gFr.rf (hc.up (by omega)) (ht.up (by omega)) hQ
end SCRIBE3
