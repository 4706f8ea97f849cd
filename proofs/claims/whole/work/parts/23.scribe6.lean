/-! Scribe: move. Written by wip/whole/tools/mk_scribe6.py. -/
def mvC (tx : List Int) (gs : List gG) (q : gG) : Bool := decide (onT q = 1) && decide (q.1 = 1) && decide (lml q = 1) && decide (alnC gs q = 1) && decide (lhas tx (q.2.2.2.1 + 1) = 1) && !(inSp gs (q.2.2.2.1 + 1))
def mvS (m : Int) : Nat → Nat → cS → cS
  | 0, _, s => s
  | n + 1, g, s => if mvC s.1 s.2.1 (gq s.2.1 g) = true then (if tkn (lat s.2.2.1 5 + 1) m = 1 then mvS m n (g + 1) (s.1, s.2.1.set g (shG (gq s.2.1 g) 1), (tcS 5 m s).2.2) else mvS m n (g + 1) (tcS 5 m s)) else mvS m n (g + 1) s
theorem lhas_01 (xs : List Int) (i : Int) : lhas xs i = 0 ∨ lhas xs i = 1 := by unfold lhas; split <;> omega
section SCRIBE6
variable {l : Launch} {E : gE} {d : Nat} {K : List gK} {R V : Int → Int → Int} {B H g : Int} {Q : gQ} {tx : List Int} {gs : List gG} {q : gG} {ex sc rc wy : Int} {ch tk fr to fe ea : List Int}
set_option maxRecDepth 4000 in
theorem c_canMove (hB : bkK K R B) (hb : bkIs V B tx gs) (hg : glK K R g) (hv : glIs V g q) (hq : -100 ≤ q.2.2.1 ∧ q.2.2.1 ≤ 100 ∧ -100 ≤ q.2.2.2.1 ∧ q.2.2.2.1 ≤ 100) (hQ : Q (some (gi (b2i (mvC tx gs q)))) (K, R, V)) : gC l E (d + 3) iX7_canMove [ga B, ga g] (K, R, V) Q := by
  refine gC_of kX7_canMove (ls := [some (ga B), some (ga g)]) rfl (Nat.le_of_ble_eq_true rfl) ?_
  refine gX_aloadn dX7_canMove_0 rfl ?_
  refine gX_virt (J := iX3_isOnText) (av := []) (a := g) (st := []) dX7_canMove_1 lkX7_120 kX3_isOnText vX3_isOnText (gFit_m (by decide)) hg.1 rfl rfl (Nat.le_of_ble_eq_true rfl) (Nat.zero_le _) (Nat.zero_le _) rfl ?_
  refine c_isOnText hg hv ?_
  show gX l E _ 4 [some (ga B), some (ga g)] [gi (onT q)] (K, R, V) _ _
  have o1 := onT_01 q
  have hll : lml q = q.2.2.2.1 - q.2.2.1 + 1 := rfl
  refine gX_ifeq (tgt := 64) dX7_canMove_4 (by decide) (fun w1 => ?_) (fun w1 => ?_)
  · refine gX_iconst dX7_canMove_64 ⟨by decide, by decide⟩ ?_
    refine gX_iret dX7_canMove_65 (Or.inr ⟨rfl, Or.inl rfl⟩) ?_
    have ec : mvC tx gs q = false := by
      unfold mvC
      simp only [Bool.and_eq_false_iff, decide_eq_false_iff_not, Bool.not_eq_false']
      first | exact Or.inl (Or.inl (Or.inl (Or.inl (Or.inl (by omega))))) | exact Or.inl (Or.inl (Or.inl (Or.inl (Or.inr (by omega))))) | exact Or.inl (Or.inl (Or.inl (Or.inr (by omega)))) | exact Or.inl (Or.inl (Or.inr (by omega))) | exact Or.inl (Or.inr (by omega)) | exact Or.inr (b2i_1 (by assumption))
    rw [ec] at hQ
    exact hQ
  · refine gX_aloadn dX7_canMove_7 rfl ?_
    refine gX_gI 1 dX7_canMove_8 fdX7_143 rfl (Or.inl rfl) hg.1 ?_
    rw [hv.1]
    refine gX_iconst dX7_canMove_11 ⟨by decide, by decide⟩ ?_
    refine gX_icmpne (tgt := 64) dX7_canMove_12 (by decide) (fun w2 => ?_) (fun w2 => ?_)
    · refine gX_iconst dX7_canMove_64 ⟨by decide, by decide⟩ ?_
      refine gX_iret dX7_canMove_65 (Or.inr ⟨rfl, Or.inl rfl⟩) ?_
      have ec : mvC tx gs q = false := by
        unfold mvC
        simp only [Bool.and_eq_false_iff, decide_eq_false_iff_not, Bool.not_eq_false']
        first | exact Or.inl (Or.inl (Or.inl (Or.inl (Or.inl (by omega))))) | exact Or.inl (Or.inl (Or.inl (Or.inl (Or.inr (by omega))))) | exact Or.inl (Or.inl (Or.inl (Or.inr (by omega)))) | exact Or.inl (Or.inl (Or.inr (by omega))) | exact Or.inl (Or.inr (by omega)) | exact Or.inr (b2i_1 (by assumption))
      rw [ec] at hQ
      exact hQ
    · refine gX_aloadn dX7_canMove_15 rfl ?_
      refine gX_virt (J := iX3_lemmaLength) (av := []) (a := g) (st := []) dX7_canMove_16 lkX7_149 kX3_lemmaLength vX3_lemmaLength (gFit_m (by decide)) hg.1 rfl rfl (Nat.le_of_ble_eq_true rfl) (Nat.zero_le _) (Nat.zero_le _) rfl ?_
      refine c_lemmaLength hg hv ⟨⟨by omega, by omega⟩, ⟨by omega, by omega⟩⟩ ?_
      show gX l E _ 19 [some (ga B), some (ga g)] [gi (lml q)] (K, R, V) _ _
      refine gX_iconst dX7_canMove_19 ⟨by decide, by decide⟩ ?_
      refine gX_icmpne (tgt := 64) dX7_canMove_20 (by decide) (fun w3 => ?_) (fun w3 => ?_)
      · refine gX_iconst dX7_canMove_64 ⟨by decide, by decide⟩ ?_
        refine gX_iret dX7_canMove_65 (Or.inr ⟨rfl, Or.inl rfl⟩) ?_
        have ec : mvC tx gs q = false := by
          unfold mvC
          simp only [Bool.and_eq_false_iff, decide_eq_false_iff_not, Bool.not_eq_false']
          first | exact Or.inl (Or.inl (Or.inl (Or.inl (Or.inl (by omega))))) | exact Or.inl (Or.inl (Or.inl (Or.inl (Or.inr (by omega))))) | exact Or.inl (Or.inl (Or.inl (Or.inr (by omega)))) | exact Or.inl (Or.inl (Or.inr (by omega))) | exact Or.inl (Or.inr (by omega)) | exact Or.inr (b2i_1 (by assumption))
        rw [ec] at hQ
        exact hQ
      · refine gX_aloadn dX7_canMove_23 rfl ?_
        refine gX_aloadn dX7_canMove_24 rfl ?_
        refine gX_virt (J := iX1_isAloneOnText) (av := [ga g]) (a := B) (st := []) dX7_canMove_25 lkX7_180 kX1_isAloneOnText vX1_isAloneOnText (gFit_m (by decide)) hB.1 rfl rfl (Nat.le_of_ble_eq_true rfl) (Nat.zero_le _) (Nat.zero_le _) rfl ?_
        refine c_isAlone hB hb hg hv ?_
        show gX l E _ 28 [some (ga B), some (ga g)] [gi (if alnC gs q = 1 then 1 else 0)] (K, R, V) _ _
        skip
        refine gX_ifeq (tgt := 64) dX7_canMove_28 (by decide) (fun w4 => ?_) (fun w4 => ?_)
        · refine gX_iconst dX7_canMove_64 ⟨by decide, by decide⟩ ?_
          refine gX_iret dX7_canMove_65 (Or.inr ⟨rfl, Or.inl rfl⟩) ?_
          have ec : mvC tx gs q = false := by
            unfold mvC
            simp only [Bool.and_eq_false_iff, decide_eq_false_iff_not, Bool.not_eq_false']
            first | exact Or.inl (Or.inl (Or.inl (Or.inl (Or.inl (by omega))))) | exact Or.inl (Or.inl (Or.inl (Or.inl (Or.inr (by omega))))) | exact Or.inl (Or.inl (Or.inl (Or.inr (by omega)))) | exact Or.inl (Or.inl (Or.inr (by omega))) | exact Or.inl (Or.inr (by omega)) | exact Or.inr (b2i_1 (by assumption))
          rw [ec] at hQ
          exact hQ
        · refine gX_aloadn dX7_canMove_31 rfl ?_
          refine gX_gR 0 dX7_canMove_32 fdX7_77 rfl rfl hB.1 hB.2.1 ?_
          refine gX_aloadn dX7_canMove_35 rfl ?_
          refine gX_gI 4 dX7_canMove_36 fdX7_133 rfl (Or.inl rfl) hg.1 ?_
          rw [hv.2.2.2.1]
          refine gX_iconst dX7_canMove_39 ⟨by decide, by decide⟩ ?_
          refine gX_iadd dX7_canMove_40 ⟨by omega, by omega⟩ ?_
          refine gX_virt (J := iX6_has) (av := [gi (q.2.2.2.1 + 1)]) (a := (B + 1)) (st := []) dX7_canMove_41 lkX7_184 kX6_has vX6_has (gFit_m (by decide)) hB.2.2.2.2.2.2.1.1 rfl rfl (Nat.le_of_ble_eq_true rfl) (Nat.zero_le _) (Nat.zero_le _) rfl ?_
          refine q_Row_has hB.2.2.2.2.2.2.1 hb.1 ?_
          show gX l E _ 44 [some (ga B), some (ga g)] [gi (lhas tx (q.2.2.2.1 + 1))] (K, R, V) _ _
          have o2 := lhas_01 tx (q.2.2.2.1 + 1)
          refine gX_ifeq (tgt := 64) dX7_canMove_44 (by decide) (fun w5 => ?_) (fun w5 => ?_)
          · refine gX_iconst dX7_canMove_64 ⟨by decide, by decide⟩ ?_
            refine gX_iret dX7_canMove_65 (Or.inr ⟨rfl, Or.inl rfl⟩) ?_
            have ec : mvC tx gs q = false := by
              unfold mvC
              simp only [Bool.and_eq_false_iff, decide_eq_false_iff_not, Bool.not_eq_false']
              first | exact Or.inl (Or.inl (Or.inl (Or.inl (Or.inl (by omega))))) | exact Or.inl (Or.inl (Or.inl (Or.inl (Or.inr (by omega))))) | exact Or.inl (Or.inl (Or.inl (Or.inr (by omega)))) | exact Or.inl (Or.inl (Or.inr (by omega))) | exact Or.inl (Or.inr (by omega)) | exact Or.inr (b2i_1 (by assumption))
            rw [ec] at hQ
            exact hQ
          · refine gX_aloadn dX7_canMove_47 rfl ?_
            refine gX_aloadn dX7_canMove_48 rfl ?_
            refine gX_gI 4 dX7_canMove_49 fdX7_133 rfl (Or.inl rfl) hg.1 ?_
            rw [hv.2.2.2.1]
            refine gX_iconst dX7_canMove_52 ⟨by decide, by decide⟩ ?_
            refine gX_iadd dX7_canMove_53 ⟨by omega, by omega⟩ ?_
            refine gX_virt (J := iX1_isInSpanOfText) (av := [gi (q.2.2.2.1 + 1)]) (a := B) (st := []) dX7_canMove_54 lkX7_139 kX1_isInSpanOfText vX1_isInSpanOfText (gFit_m (by decide)) hB.1 rfl rfl (Nat.le_of_ble_eq_true rfl) (Nat.zero_le _) (Nat.zero_le _) rfl ?_
            refine c_isInSpan hB hb ?_
            show gX l E _ 57 [some (ga B), some (ga g)] [gi (b2i (inSp gs (q.2.2.2.1 + 1)))] (K, R, V) _ _
            refine gX_ifne (tgt := 64) dX7_canMove_57 (by decide) (fun w6 => ?_) (fun w6 => ?_)
            · refine gX_iconst dX7_canMove_64 ⟨by decide, by decide⟩ ?_
              refine gX_iret dX7_canMove_65 (Or.inr ⟨rfl, Or.inl rfl⟩) ?_
              have ec : mvC tx gs q = false := by
                unfold mvC
                simp only [Bool.and_eq_false_iff, decide_eq_false_iff_not, Bool.not_eq_false']
                first | exact Or.inl (Or.inl (Or.inl (Or.inl (Or.inl (by omega))))) | exact Or.inl (Or.inl (Or.inl (Or.inl (Or.inr (by omega))))) | exact Or.inl (Or.inl (Or.inl (Or.inr (by omega)))) | exact Or.inl (Or.inl (Or.inr (by omega))) | exact Or.inl (Or.inr (by omega)) | exact Or.inr (b2i_1 (by assumption))
              rw [ec] at hQ
              exact hQ
            · refine gX_iconst dX7_canMove_60 ⟨by decide, by decide⟩ ?_
              refine gX_goto (tgt := 65) dX7_canMove_61 (by decide) ?_
              refine gX_iret dX7_canMove_65 (Or.inr ⟨rfl, Or.inr rfl⟩) ?_
              have ec : mvC tx gs q = true := by
                unfold mvC
                simp only [Bool.and_eq_true, decide_eq_true_eq, Bool.not_eq_true']
                exact ⟨⟨⟨⟨⟨by omega, by omega⟩, by omega⟩, by omega⟩, by omega⟩, b2i_0 (by assumption)⟩
              rw [ec] at hQ
              exact hQ
theorem mvC_bd {tx : List Int} {gs : List gG} {q : gG} (hl : tx.length ≤ 40) (h : mvC tx gs q = true) (hb : -100 ≤ q.2.2.1 ∧ q.2.2.1 ≤ 100 ∧ -100 ≤ q.2.2.2.1 ∧ q.2.2.2.1 ≤ 100) : -100 ≤ (shG q 1).2.2.1 ∧ (shG q 1).2.2.1 ≤ 100 ∧ -100 ≤ (shG q 1).2.2.2.1 ∧ (shG q 1).2.2.2.1 ≤ 100 := by
  unfold mvC at h
  simp only [Bool.and_eq_true, decide_eq_true_eq] at h
  have h1 := h.1.2
  have h2 := h.1.1.1.2
  unfold lhas at h1
  have h3 : 0 ≤ q.2.2.2.1 + 1 ∧ q.2.2.2.1 + 1 < tx.length := by
    by_cases c : 0 ≤ q.2.2.2.1 + 1 ∧ q.2.2.2.1 + 1 < tx.length
    · exact c
    · rw [if_neg c] at h1; omega
  have h4 : lml q = q.2.2.2.1 - q.2.2.1 + 1 := rfl
  show -100 ≤ q.2.2.1 + 1 ∧ q.2.2.1 + 1 ≤ 100 ∧ -100 ≤ q.2.2.2.1 + 1 ∧ q.2.2.2.1 + 1 ≤ 100
  omega
set_option maxRecDepth 4000 in
theorem c_move {s0 : cS} (hB : bkK K R B) (hH : hdK K R H) (hd1 : H + 9 ≤ B ∨ B + 70 ≤ H) (hs : fbIs V B ex sc s0) (hh : hdIs V H fr to fe ea rc wy) (hg : gBd s0.2.1 100) (hc : cBd s0.2.2.1 2000) (ht : cBd s0.2.2.2 2000) (hQ : ∀ V', fbIs V' B ex sc (mvS (lat ea 5) s0.2.1.length 0 s0) → gFr V V' B (B + 70) → Q none (K, R, V')) : gC l E (d + 4) iX7_move [ga B, ga H] (K, R, V) Q := by
  refine gC_of kX7_move (ls := [some (ga B), some (ga H), none, none]) rfl (Nat.le_of_ble_eq_true rfl) ?_
  have h20 := hs.1.2.2.1
  have lp : ∀ (jj : Nat) (i : Int) (j3 : Option gV) (V1 : Int → Int → Int) (s : cS) (bc bs : Nat), (s.2.1.length : Int) - i < (jj : Int) → 0 ≤ i → i ≤ s.2.1.length → s.2.1.length = s0.2.1.length → fbIs V1 B ex sc s → hdIs V1 H fr to fe ea rc wy → gFr V V1 B (B + 70) → gBd s.2.1 100 → cBd s.2.2.1 (2000 + i) → cBd s.2.2.2 (2000 + i) → (∀ V', fbIs V' B ex sc (mvS (lat ea 5) (s.2.1.length - i.toNat) i.toNat s) → gFr V V' B (B + 70) → Q none (K, R, V')) → gX l E (gFm E (d + 4) iX7_move Q) 2 [some (ga B), some (ga H), some (gi i), j3] [] (K, R, V1) bc bs := by
    intro jj
    induction jj with
    | zero =>
      intro i j3 V1 s bc bs hj q0 q1 q2 hs1 hh1 hf1 hg1 hc1 ht1 hq2
      exfalso; omega
    | succ jj ih =>
      intro i j3 V1 s bc bs hj q0 q1 q2 hs1 hh1 hf1 hg1 hc1 ht1 hq2
      have hcn := hs1.1.2.1
      have h20 := hs1.1.2.2.1
      have hxl := hs1.1.1.2.1
      refine gX_iloadn dX7_move_2 rfl ?_
      refine gX_aloadn dX7_move_3 rfl ?_
      refine gX_gI 5 dX7_move_4 fdX7_84 rfl (Or.inl rfl) hB.1 ?_
      refine gX_icmpge (tgt := 48) dX7_move_7 (by decide) (fun w1 => ?_) (fun w1 => ?_)
      · refine gX_vret dX7_move_48 rfl ?_
        have ei : s.2.1.length - i.toNat = 0 := by omega
        rw [ei] at hq2
        exact hq2 V1 hs1 hf1
      · refine gX_aloadn dX7_move_10 rfl ?_
        refine gX_iloadn dX7_move_11 rfl ?_
        refine gX_virt (J := iX1_glossAt) (av := [gi i]) (a := B) (st := []) dX7_move_12 lkX7_116 kX1_glossAt vX1_glossAt (gFit_m (by decide)) hB.1 rfl rfl (Nat.le_of_ble_eq_true rfl) (Nat.zero_le _) (Nat.zero_le _) rfl ?_
        refine c_glossAt hB hs1.1 q0 (by omega) ?_
        show gX l E _ 15 [some (ga B), some (ga H), some (gi i), j3] [ga (B + 10 + 3 * i)] (K, R, V1) _ _
        refine gX_astoren dX7_move_15 (show (3 : Nat) < 4 from by decide) (ls2 := [some (ga B), some (ga H), some (gi i), some (ga (B + 10 + 3 * i))]) rfl ?_
        have gb := hg1 _ (gq_mem (gs := s.2.1) (g := i) q0 (by omega))
        refine gX_aloadn dX7_move_16 rfl ?_
        refine gX_ifnull (tgt := 42) dX7_move_17 (by decide) (fun w2 => absurd (kd_pos (hB.2.2.2.2.2.2.2.2.2.2.2 i q0 (by omega)).2.1) (by omega)) (fun w2 => ?_)
        refine gX_aloadn dX7_move_20 rfl ?_
        refine gX_aloadn dX7_move_21 rfl ?_
        refine gX_stat (J := iX7_canMove) (av := [ga B, ga (B + 10 + 3 * i)]) (st := []) dX7_move_22 lkX7_176 kX7_canMove sX7_canMove (gFit_m (by decide)) rfl (Nat.le_of_ble_eq_true rfl) (Nat.zero_le _) (Nat.zero_le _) rfl ?_
        refine c_canMove hB hs1.1 (hB.2.2.2.2.2.2.2.2.2.2.2 i q0 (by omega)).2 (hs1.1.gl q0 (by omega)) gb ?_
        show gX l E _ 25 [some (ga B), some (ga H), some (gi i), some (ga (B + 10 + 3 * i))] [gi (b2i (mvC s.1 s.2.1 (gq s.2.1 i)))] (K, R, V1) _ _
        refine gX_ifeq (tgt := 42) dX7_move_25 (by decide) (fun w3 => ?_) (fun w3 => ?_)
        · refine gX_iinc dX7_move_42 rfl (show (2 : Nat) < 4 from by decide) ⟨by omega, by omega⟩ (ls2 := [some (ga B), some (ga H), some (gi (i + 1)), some (ga (B + 10 + 3 * i))]) rfl ?_
          refine gX_goto (tgt := 2) dX7_move_45 (by decide) ?_
          have en : mvC s.1 s.2.1 (gq s.2.1 i) = false := b2i_0 (by assumption)
          have ek : s.2.1.length - i.toNat = (s.2.1.length - (i + 1).toNat) + 1 := by omega
          have e1 : mvS (lat ea 5) (s.2.1.length - i.toNat) i.toNat s = mvS (lat ea 5) (s.2.1.length - (i + 1).toNat) (i + 1).toNat s := by
            rw [ek]
            show (if _ then (if _ then _ else _) else _) = _
            rw [Int.toNat_of_nonneg q0, show i.toNat + 1 = (i + 1).toNat by omega]
            rw [if_neg (by rw [en]; decide)]
          rw [e1] at hq2
          exact ih (i + 1) _ V1 s _ _ (by omega) (by omega) (by omega) q2 hs1 hh1 hf1 hg1 (hc1.up (by omega)) (ht1.up (by omega)) hq2
        · have em := b2i_1 (by assumption)
          have em2 := mvC_bd hxl em gb
          refine gX_iconst dX7_move_28 ⟨by decide, by decide⟩ ?_
          refine gX_aloadn dX7_move_29 rfl ?_
          refine gX_aloadn dX7_move_30 rfl ?_
          refine gX_stat (J := iX7_chance) (av := [gi 5, ga B, ga H]) (st := []) dX7_move_31 lkX7_105 kX7_chance sX7_chance (gFit_m (by decide)) rfl (Nat.le_of_ble_eq_true rfl) (Nat.zero_le _) (Nat.zero_le _) rfl ?_
          refine c_chance hB hH hs1.2 hh1 (by omega) (by omega) (hc1.up (by omega)) (ht1.up (by omega)) (fun V2 hm2 hf2 => ?_)
          show gX l E _ 34 [some (ga B), some (ga H), some (gi i), some (ga (B + 10 + 3 * i))] [gi (tkn (lat s.2.2.1 5 + 1) (lat ea 5))] (K, R, V2) _ _
          have o1 := tkn_01 (lat s.2.2.1 5 + 1) (lat ea 5)
          refine gX_ifeq (tgt := 42) dX7_move_34 (by decide) (fun w4 => ?_) (fun w4 => ?_)
          · refine gX_iinc dX7_move_42 rfl (show (2 : Nat) < 4 from by decide) ⟨by omega, by omega⟩ (ls2 := [some (ga B), some (ga H), some (gi (i + 1)), some (ga (B + 10 + 3 * i))]) rfl ?_
            refine gX_goto (tgt := 2) dX7_move_45 (by decide) ?_
            have ek : s.2.1.length - i.toNat = (s.2.1.length - (i + 1).toNat) + 1 := by omega
            have e1 : mvS (lat ea 5) (s.2.1.length - i.toNat) i.toNat s = mvS (lat ea 5) (s.2.1.length - (i + 1).toNat) (i + 1).toNat (tcS 5 (lat ea 5) s) := by
              rw [ek]
              show (if _ then (if _ then _ else _) else _) = _
              rw [Int.toNat_of_nonneg q0, show i.toNat + 1 = (i + 1).toNat by omega]
              rw [if_pos em, if_neg (by omega)]
            rw [e1] at hq2
            exact ih (i + 1) _ V2 (tcS 5 (lat ea 5) s) _ _ (by show (s.2.1.length : Int) - (i + 1) < _; omega) (by omega) (by show i + 1 ≤ (s.2.1.length : Int); omega) q2 ⟨hs1.1.m hf2, hm2⟩ (hh1.fr hf2 (by omega)) (hf1.trans (hf2.wide (by omega) (by omega))) hg1 ((tcS_c (h := 5) (m := lat ea 5) hc1 (by omega) (by omega)).up (by omega)) ((tcS_t (h := 5) (m := lat ea 5) ht1 (by omega) (by omega)).up (by omega)) hq2
          · refine gX_aloadn dX7_move_37 rfl ?_
            refine gX_iconst dX7_move_38 ⟨by decide, by decide⟩ ?_
            refine gX_virt (J := iX3_shift) (av := [gi 1]) (a := (B + 10 + 3 * i)) (st := []) dX7_move_39 lkX7_169 kX3_shift vX3_shift (gFit_m (by decide)) (hB.2.2.2.2.2.2.2.2.2.2.2 i q0 (by omega)).2.1 rfl rfl (Nat.le_of_ble_eq_true rfl) (Nat.zero_le _) (Nat.zero_le _) rfl ?_
            refine c_shift (hB.2.2.2.2.2.2.2.2.2.2.2 i q0 (by omega)).2 ((hs1.1.m hf2).gl q0 (by omega)) ⟨by omega, by omega⟩ ⟨by omega, by omega⟩ (fun V3 hv3 hf3 => ?_)
            show gX l E _ 42 [some (ga B), some (ga H), some (gi i), some (ga (B + 10 + 3 * i))] [] (K, R, V3) _ _
            refine gX_iinc dX7_move_42 rfl (show (2 : Nat) < 4 from by decide) ⟨by omega, by omega⟩ (ls2 := [some (ga B), some (ga H), some (gi (i + 1)), some (ga (B + 10 + 3 * i))]) rfl ?_
            refine gX_goto (tgt := 2) dX7_move_45 (by decide) ?_
            have ek : s.2.1.length - i.toNat = (s.2.1.length - (i + 1).toNat) + 1 := by omega
            have e1 : mvS (lat ea 5) (s.2.1.length - i.toNat) i.toNat s = mvS (lat ea 5) (s.2.1.length - (i + 1).toNat) (i + 1).toNat (s.1, (s.2.1.set i.toNat (shG (gq s.2.1 i) 1)), (tcS 5 (lat ea 5) s).2.2) := by
              rw [ek]
              show (if _ then (if _ then _ else _) else _) = _
              rw [Int.toNat_of_nonneg q0, show i.toNat + 1 = (i + 1).toNat by omega]
              rw [if_pos em, if_pos (by omega)]
            rw [e1] at hq2
            have el : (s.2.1.set i.toNat (shG (gq s.2.1 i) 1)).length = s.2.1.length := List.length_set
            refine ih (i + 1) _ V3 (s.1, (s.2.1.set i.toNat (shG (gq s.2.1 i) 1)), (tcS 5 (lat ea 5) s).2.2) _ _ (by show ((s.2.1.set i.toNat (shG (gq s.2.1 i) 1)).length : Int) - (i + 1) < _; omega) (by omega) (by show i + 1 ≤ ((s.2.1.set i.toNat (shG (gq s.2.1 i) 1)).length : Int); omega) (by show (s.2.1.set i.toNat (shG (gq s.2.1 i) 1)).length = _; omega) ⟨(hs1.1.m hf2).setg q0 (by omega) hv3 (fun a g1 g2 g3 => hf3 a (by omega)), hm2.kept (fun a g1 g2 => hf3 a (by omega))⟩ ((hh1.fr hf2 (by omega)).fr (hf3.wide (lo2 := B) (hi2 := B + 70) (by omega) (by omega)) (by omega)) (hf1.trans ((hf2.wide (by omega) (by omega)).trans (hf3.wide (by omega) (by omega)))) (hg1.set em2) ((tcS_c (h := 5) (m := lat ea 5) hc1 (by omega) (by omega)).up (by omega)) ((tcS_t (h := 5) (m := lat ea 5) ht1 (by omega) (by omega)).up (by omega)) ?_
            show ∀ V', fbIs V' B ex sc (mvS (lat ea 5) ((s.2.1.set i.toNat (shG (gq s.2.1 i) 1)).length - (i + 1).toNat) (i + 1).toNat _) → _
            rw [el]
            exact hq2
  refine gX_iconst dX7_move_0 ⟨by decide, by decide⟩ ?_
  refine gX_istoren dX7_move_1 (show (2 : Nat) < 4 from by decide) (ls2 := [some (ga B), some (ga H), some (gi 0), none]) rfl ?_
  exact lp (s0.2.1.length + 1) 0 none V s0 _ _ (by omega) (by omega) (by omega) rfl hs hh gFr.rf hg (hc.up (by omega)) (ht.up (by omega)) hQ
end SCRIBE6
