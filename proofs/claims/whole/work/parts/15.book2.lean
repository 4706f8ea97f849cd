/-! Book: counts, changes. Written by wip/whole/tools/mk_book2.py. -/
def spnC (gs : List gG) : Int := cntB (fun g => decide (ordS gs g = 0)) gs.length
def abvC (gs : List gG) : Int := cntB (fun g => decide ((gq gs g).1 = 0)) gs.length
def rwsC (gs : List gG) : Int := sumB (fun g => ((gq gs g).2.2.2.2.2.length : Int)) gs.length
def dptM (gs : List gG) : Int := maxB (fun g => dpt gs 5 g) gs.length
def alnC (gs : List gG) (q : gG) : Int := cntB (fun g => decide (onT (gq gs g) = 1) && decide (shr (gq gs g) q = 1)) gs.length
theorem maxB_s (f : Nat → Int) (n : Nat) : maxB f (n + 1) = max (maxB f n) (f n) := rfl
theorem sumB_s (f : Nat → Int) (n : Nat) : sumB f (n + 1) = sumB f n + f n := rfl
theorem anyB_s (f : Nat → Bool) (n : Nat) : anyB f (n + 1) = (anyB f n || f n) := rfl
theorem onT_01 (q : gG) : onT q = 0 ∨ onT q = 1 := by unfold onT; split <;> omega
theorem shr_01 (p q : gG) : shr p q = 0 ∨ shr p q = 1 := by unfold shr; split <;> omega
theorem cov_01 (q : gG) (i : Int) : cov q i = 0 ∨ cov q i = 1 := by unfold cov; split <;> omega
theorem anyB_t {f : Nat → Bool} : ∀ {n k : Nat}, k < n → f k = true → anyB f n = true := by
  intro n
  induction n with
  | zero => intro k h; omega
  | succ n ih =>
    intro k h hf
    rw [anyB_s]
    by_cases c : k = n
    · subst c; rw [hf, Bool.or_true]
    · rw [ih (by omega) hf, Bool.true_or]
section BOOK2
variable {l : Launch} {E : gE} {d : Nat} {K : List gK} {R V : Int → Int → Int} {B g : Int} {Q : gQ} {tx : List Int} {gs : List gG} {q : gG}
set_option maxRecDepth 4000 in
theorem c_spanCount (hB : bkK K R B) (hb : bkIs V B tx gs) (hQ : Q (some (gi (spnC gs))) (K, R, V)) : gC l E (d + 3) iX1_spanCount [ga B] (K, R, V) Q := by
  refine gC_of kX1_spanCount (ls := [some (ga B), none, none]) rfl (Nat.le_of_ble_eq_true rfl) ?_
  have h20 := hb.2.2.1
  have hcn := hb.2.1
  have bd := fun n => cntB_bd (fun k => decide (ordS gs k = 0)) n
  have lp : ∀ (jj : Nat) (i : Int) (bc bs : Nat), gs.length - i < (jj : Int) → 0 ≤ i → i ≤ gs.length → gX l E (gFm E (d + 3) iX1_spanCount Q) 4 [some (ga B), some (gi (cntB (fun k => decide (ordS gs k = 0)) i.toNat)), some (gi i)] [] (K, R, V) bc bs := by
    intro jj
    induction jj with
    | zero =>
      intro i bc bs hj q0 q1
      exfalso; omega
    | succ jj ih =>
      intro i bc bs hj q0 q1
      have bd1 := bd i.toNat
      refine gX_iloadn dX1_spanCount_4 rfl ?_
      refine gX_aloadn dX1_spanCount_5 rfl ?_
      refine gX_gI 5 dX1_spanCount_6 fdX1_35 rfl (Or.inl rfl) hB.1 ?_
      refine gX_icmpge (tgt := 29) dX1_spanCount_9 (by decide) (fun w1 => ?_) (fun w1 => ?_)
      · refine gX_iloadn dX1_spanCount_29 rfl ?_
        refine gX_iret dX1_spanCount_30 (Or.inl rfl) ?_
        have ei : i.toNat = gs.length := by omega
        rw [ei]
        exact hQ
      · refine gX_aloadn dX1_spanCount_12 rfl ?_
        refine gX_iloadn dX1_spanCount_13 rfl ?_
        refine gX_virt (J := iX1_orderInSpan) (av := [gi i]) (a := B) (st := []) dX1_spanCount_14 lkX1_98 kX1_orderInSpan vX1_orderInSpan (gFit_m (by decide)) hB.1 rfl rfl (Nat.le_of_ble_eq_true rfl) (Nat.zero_le _) (Nat.zero_le _) rfl ?_
        refine c_orderInSpan hB hb (by omega) (by omega) ?_
        show gX l E _ 17 [some (ga B), some (gi (cntB (fun k => decide (ordS gs k = 0)) i.toNat)), some (gi i)] [gi (ordS gs i)] (K, R, V) _ _
        refine gX_ifne (tgt := 23) dX1_spanCount_17 (by decide) (fun w2 => ?_) (fun w2 => ?_)
        · refine gX_iinc dX1_spanCount_23 rfl (show (2 : Nat) < 3 from by decide) ⟨by omega, by omega⟩ (ls2 := [some (ga B), some (gi (cntB (fun k => decide (ordS gs k = 0)) i.toNat)), some (gi (i + 1))]) rfl ?_
          refine gX_goto (tgt := 4) dX1_spanCount_26 (by decide) ?_
          have ec : cntB (fun k => decide (ordS gs k = 0)) (i + 1).toNat = cntB (fun k => decide (ordS gs k = 0)) i.toNat + 0 := by
            rw [show (i + 1).toNat = i.toNat + 1 by omega, cntB_s]
            simp only [Int.toNat_of_nonneg q0, Bool.and_eq_true, decide_eq_true_eq]
            rw [if_neg (by omega)]
          rw [Int.add_zero] at ec
          rw [← ec]
          exact ih (i + 1) _ _ (by omega) (by omega) (by omega)
        · refine gX_iinc dX1_spanCount_20 rfl (show (1 : Nat) < 3 from by decide) ⟨by omega, by omega⟩ (ls2 := [some (ga B), some (gi ((cntB (fun k => decide (ordS gs k = 0)) i.toNat) + 1)), some (gi i)]) rfl ?_
          refine gX_iinc dX1_spanCount_23 rfl (show (2 : Nat) < 3 from by decide) ⟨by omega, by omega⟩ (ls2 := [some (ga B), some (gi ((cntB (fun k => decide (ordS gs k = 0)) i.toNat) + 1)), some (gi (i + 1))]) rfl ?_
          refine gX_goto (tgt := 4) dX1_spanCount_26 (by decide) ?_
          have ec : cntB (fun k => decide (ordS gs k = 0)) (i + 1).toNat = cntB (fun k => decide (ordS gs k = 0)) i.toNat + 1 := by
            rw [show (i + 1).toNat = i.toNat + 1 by omega, cntB_s]
            simp only [Int.toNat_of_nonneg q0, Bool.and_eq_true, decide_eq_true_eq]
            rw [if_pos (by omega)]
          rw [← ec]
          exact ih (i + 1) _ _ (by omega) (by omega) (by omega)
  refine gX_iconst dX1_spanCount_0 ⟨by decide, by decide⟩ ?_
  refine gX_istoren dX1_spanCount_1 (show (1 : Nat) < 3 from by decide) (ls2 := [some (ga B), some (gi 0), none]) rfl ?_
  refine gX_iconst dX1_spanCount_2 ⟨by decide, by decide⟩ ?_
  refine gX_istoren dX1_spanCount_3 (show (2 : Nat) < 3 from by decide) (ls2 := [some (ga B), some (gi 0), some (gi 0)]) rfl ?_
  exact lp (gs.length + 1) 0 _ _ (by omega) (by omega) (by omega)
set_option maxRecDepth 4000 in
theorem c_aboveCount (hB : bkK K R B) (hb : bkIs V B tx gs) (hQ : Q (some (gi (abvC gs))) (K, R, V)) : gC l E (d + 2) iX1_aboveCount [ga B] (K, R, V) Q := by
  refine gC_of kX1_aboveCount (ls := [some (ga B), none, none, none]) rfl (Nat.le_of_ble_eq_true rfl) ?_
  have h20 := hb.2.2.1
  have hcn := hb.2.1
  have bd := fun n => cntB_bd (fun k => decide ((gq gs k).1 = 0)) n
  have lp : ∀ (jj : Nat) (i : Int) (j3 : Option gV) (bc bs : Nat), gs.length - i < (jj : Int) → 0 ≤ i → i ≤ gs.length → gX l E (gFm E (d + 2) iX1_aboveCount Q) 4 [some (ga B), some (gi (cntB (fun k => decide ((gq gs k).1 = 0)) i.toNat)), some (gi i), j3] [] (K, R, V) bc bs := by
    intro jj
    induction jj with
    | zero =>
      intro i j3 bc bs hj q0 q1
      exfalso; omega
    | succ jj ih =>
      intro i j3 bc bs hj q0 q1
      have bd1 := bd i.toNat
      refine gX_iloadn dX1_aboveCount_4 rfl ?_
      refine gX_aloadn dX1_aboveCount_5 rfl ?_
      refine gX_gI 5 dX1_aboveCount_6 fdX1_35 rfl (Or.inl rfl) hB.1 ?_
      refine gX_icmpge (tgt := 38) dX1_aboveCount_9 (by decide) (fun w1 => ?_) (fun w1 => ?_)
      · refine gX_iloadn dX1_aboveCount_38 rfl ?_
        refine gX_iret dX1_aboveCount_39 (Or.inl rfl) ?_
        have ei : i.toNat = gs.length := by omega
        rw [ei]
        exact hQ
      · refine gX_aloadn dX1_aboveCount_12 rfl ?_
        refine gX_iloadn dX1_aboveCount_13 rfl ?_
        refine gX_virt (J := iX1_glossAt) (av := [gi i]) (a := B) (st := []) dX1_aboveCount_14 lkX1_58 kX1_glossAt vX1_glossAt (gFit_m (by decide)) hB.1 rfl rfl (Nat.le_of_ble_eq_true rfl) (Nat.zero_le _) (Nat.zero_le _) rfl ?_
        refine c_glossAt hB hb (by omega) (by omega) ?_
        show gX l E _ 17 [some (ga B), some (gi (cntB (fun k => decide ((gq gs k).1 = 0)) i.toNat)), some (gi i), j3] [ga (B + 10 + 3 * i)] (K, R, V) _ _
        refine gX_astoren dX1_aboveCount_17 (show (3 : Nat) < 4 from by decide) (ls2 := [some (ga B), some (gi (cntB (fun k => decide ((gq gs k).1 = 0)) i.toNat)), some (gi i), some (ga (B + 10 + 3 * i))]) rfl ?_
        refine gX_aloadn dX1_aboveCount_18 rfl ?_
        refine gX_ifnull (tgt := 32) dX1_aboveCount_19 (by decide) (fun w2 => absurd (kd_pos (hB.2.2.2.2.2.2.2.2.2.2.2 i (by omega) (by omega)).2.1) (by omega)) (fun w2 => ?_)
        refine gX_aloadn dX1_aboveCount_22 rfl ?_
        refine gX_gI 1 dX1_aboveCount_23 fdX1_68 rfl (Or.inl rfl) (hB.2.2.2.2.2.2.2.2.2.2.2 i (by omega) (by omega)).2.1 ?_
        rw [(hb.gl (by omega) (by omega)).1]
        refine gX_ifne (tgt := 32) dX1_aboveCount_26 (by decide) (fun w3 => ?_) (fun w3 => ?_)
        · refine gX_iinc dX1_aboveCount_32 rfl (show (2 : Nat) < 4 from by decide) ⟨by omega, by omega⟩ (ls2 := [some (ga B), some (gi (cntB (fun k => decide ((gq gs k).1 = 0)) i.toNat)), some (gi (i + 1)), some (ga (B + 10 + 3 * i))]) rfl ?_
          refine gX_goto (tgt := 4) dX1_aboveCount_35 (by decide) ?_
          have ec : cntB (fun k => decide ((gq gs k).1 = 0)) (i + 1).toNat = cntB (fun k => decide ((gq gs k).1 = 0)) i.toNat + 0 := by
            rw [show (i + 1).toNat = i.toNat + 1 by omega, cntB_s]
            simp only [Int.toNat_of_nonneg q0, Bool.and_eq_true, decide_eq_true_eq]
            rw [if_neg (by omega)]
          rw [Int.add_zero] at ec
          rw [← ec]
          exact ih (i + 1) _ _ _ (by omega) (by omega) (by omega)
        · refine gX_iinc dX1_aboveCount_29 rfl (show (1 : Nat) < 4 from by decide) ⟨by omega, by omega⟩ (ls2 := [some (ga B), some (gi ((cntB (fun k => decide ((gq gs k).1 = 0)) i.toNat) + 1)), some (gi i), some (ga (B + 10 + 3 * i))]) rfl ?_
          refine gX_iinc dX1_aboveCount_32 rfl (show (2 : Nat) < 4 from by decide) ⟨by omega, by omega⟩ (ls2 := [some (ga B), some (gi ((cntB (fun k => decide ((gq gs k).1 = 0)) i.toNat) + 1)), some (gi (i + 1)), some (ga (B + 10 + 3 * i))]) rfl ?_
          refine gX_goto (tgt := 4) dX1_aboveCount_35 (by decide) ?_
          have ec : cntB (fun k => decide ((gq gs k).1 = 0)) (i + 1).toNat = cntB (fun k => decide ((gq gs k).1 = 0)) i.toNat + 1 := by
            rw [show (i + 1).toNat = i.toNat + 1 by omega, cntB_s]
            simp only [Int.toNat_of_nonneg q0, Bool.and_eq_true, decide_eq_true_eq]
            rw [if_pos (by omega)]
          rw [← ec]
          exact ih (i + 1) _ _ _ (by omega) (by omega) (by omega)
  refine gX_iconst dX1_aboveCount_0 ⟨by decide, by decide⟩ ?_
  refine gX_istoren dX1_aboveCount_1 (show (1 : Nat) < 4 from by decide) (ls2 := [some (ga B), some (gi 0), none, none]) rfl ?_
  refine gX_iconst dX1_aboveCount_2 ⟨by decide, by decide⟩ ?_
  refine gX_istoren dX1_aboveCount_3 (show (2 : Nat) < 4 from by decide) (ls2 := [some (ga B), some (gi 0), some (gi 0), none]) rfl ?_
  exact lp (gs.length + 1) 0 none _ _ (by omega) (by omega) (by omega)
set_option maxRecDepth 4000 in
theorem c_isAlone (hB : bkK K R B) (hb : bkIs V B tx gs) (hg : glK K R g) (hv : glIs V g q) (hQ : Q (some (gi (if alnC gs q = 1 then 1 else 0))) (K, R, V)) : gC l E (d + 2) iX1_isAloneOnText [ga B, ga g] (K, R, V) Q := by
  refine gC_of kX1_isAloneOnText (ls := [some (ga B), some (ga g), none, none, none]) rfl (Nat.le_of_ble_eq_true rfl) ?_
  have h20 := hb.2.2.1
  have hcn := hb.2.1
  have bd := fun n => cntB_bd (fun k => decide (onT (gq gs k) = 1) && decide (shr (gq gs k) q = 1)) n
  have lp : ∀ (jj : Nat) (i : Int) (j4 : Option gV) (bc bs : Nat), gs.length - i < (jj : Int) → 0 ≤ i → i ≤ gs.length → gX l E (gFm E (d + 2) iX1_isAloneOnText Q) 4 [some (ga B), some (ga g), some (gi (cntB (fun k => decide (onT (gq gs k) = 1) && decide (shr (gq gs k) q = 1)) i.toNat)), some (gi i), j4] [] (K, R, V) bc bs := by
    intro jj
    induction jj with
    | zero =>
      intro i j4 bc bs hj q0 q1
      exfalso; omega
    | succ jj ih =>
      intro i j4 bc bs hj q0 q1
      have bd1 := bd i.toNat
      refine gX_iloadn dX1_isAloneOnText_4 rfl ?_
      refine gX_aloadn dX1_isAloneOnText_5 rfl ?_
      refine gX_gI 5 dX1_isAloneOnText_6 fdX1_35 rfl (Or.inl rfl) hB.1 ?_
      refine gX_icmpge (tgt := 50) dX1_isAloneOnText_9 (by decide) (fun w1 => ?_) (fun w1 => ?_)
      · refine gX_iloadn dX1_isAloneOnText_50 rfl ?_
        refine gX_iconst dX1_isAloneOnText_51 ⟨by decide, by decide⟩ ?_
        refine gX_icmpne (tgt := 59) dX1_isAloneOnText_52 (by decide) (fun w2 => ?_) (fun w2 => ?_)
        · refine gX_iconst dX1_isAloneOnText_59 ⟨by decide, by decide⟩ ?_
          refine gX_iret dX1_isAloneOnText_60 (Or.inr ⟨rfl, Or.inl rfl⟩) ?_
          have ei : i.toNat = gs.length := by omega
          have e : (if alnC gs q = 1 then (1 : Int) else 0) = 0 := by unfold alnC; rw [← ei]; split <;> omega
          rw [← e]
          exact hQ
        · refine gX_iconst dX1_isAloneOnText_55 ⟨by decide, by decide⟩ ?_
          refine gX_goto (tgt := 60) dX1_isAloneOnText_56 (by decide) ?_
          refine gX_iret dX1_isAloneOnText_60 (Or.inr ⟨rfl, Or.inr rfl⟩) ?_
          have ei : i.toNat = gs.length := by omega
          have e : (if alnC gs q = 1 then (1 : Int) else 0) = 1 := by unfold alnC; rw [← ei]; split <;> omega
          rw [← e]
          exact hQ
      · refine gX_aloadn dX1_isAloneOnText_12 rfl ?_
        refine gX_iloadn dX1_isAloneOnText_13 rfl ?_
        refine gX_virt (J := iX1_glossAt) (av := [gi i]) (a := B) (st := []) dX1_isAloneOnText_14 lkX1_58 kX1_glossAt vX1_glossAt (gFit_m (by decide)) hB.1 rfl rfl (Nat.le_of_ble_eq_true rfl) (Nat.zero_le _) (Nat.zero_le _) rfl ?_
        refine c_glossAt hB hb (by omega) (by omega) ?_
        show gX l E _ 17 [some (ga B), some (ga g), some (gi (cntB (fun k => decide (onT (gq gs k) = 1) && decide (shr (gq gs k) q = 1)) i.toNat)), some (gi i), j4] [ga (B + 10 + 3 * i)] (K, R, V) _ _
        refine gX_astore dX1_isAloneOnText_17 (show (4 : Nat) < 5 from by decide) (ls2 := [some (ga B), some (ga g), some (gi (cntB (fun k => decide (onT (gq gs k) = 1) && decide (shr (gq gs k) q = 1)) i.toNat)), some (gi i), some (ga (B + 10 + 3 * i))]) rfl ?_
        refine gX_aload dX1_isAloneOnText_19 rfl ?_
        refine gX_ifnull (tgt := 44) dX1_isAloneOnText_21 (by decide) (fun w3 => absurd (kd_pos (hB.2.2.2.2.2.2.2.2.2.2.2 i (by omega) (by omega)).2.1) (by omega)) (fun w3 => ?_)
        refine gX_aload dX1_isAloneOnText_24 rfl ?_
        refine gX_virt (J := iX3_isOnText) (av := []) (a := (B + 10 + 3 * i)) (st := []) dX1_isAloneOnText_26 lkX1_109 kX3_isOnText vX3_isOnText (gFit_m (by decide)) (hB.2.2.2.2.2.2.2.2.2.2.2 i (by omega) (by omega)).2.1 rfl rfl (Nat.le_of_ble_eq_true rfl) (Nat.zero_le _) (Nat.zero_le _) rfl ?_
        refine c_isOnText (hB.2.2.2.2.2.2.2.2.2.2.2 i (by omega) (by omega)).2 (hb.gl (by omega) (by omega)) ?_
        show gX l E _ 29 [some (ga B), some (ga g), some (gi (cntB (fun k => decide (onT (gq gs k) = 1) && decide (shr (gq gs k) q = 1)) i.toNat)), some (gi i), some (ga (B + 10 + 3 * i))] [gi (onT (gq gs i))] (K, R, V) _ _
        have o1 := onT_01 (gq gs i)
        refine gX_ifeq (tgt := 44) dX1_isAloneOnText_29 (by decide) (fun w4 => ?_) (fun w4 => ?_)
        · refine gX_iinc dX1_isAloneOnText_44 rfl (show (3 : Nat) < 5 from by decide) ⟨by omega, by omega⟩ (ls2 := [some (ga B), some (ga g), some (gi (cntB (fun k => decide (onT (gq gs k) = 1) && decide (shr (gq gs k) q = 1)) i.toNat)), some (gi (i + 1)), some (ga (B + 10 + 3 * i))]) rfl ?_
          refine gX_goto (tgt := 4) dX1_isAloneOnText_47 (by decide) ?_
          have ec : cntB (fun k => decide (onT (gq gs k) = 1) && decide (shr (gq gs k) q = 1)) (i + 1).toNat = cntB (fun k => decide (onT (gq gs k) = 1) && decide (shr (gq gs k) q = 1)) i.toNat + 0 := by
            rw [show (i + 1).toNat = i.toNat + 1 by omega, cntB_s]
            simp only [Int.toNat_of_nonneg q0, Bool.and_eq_true, decide_eq_true_eq]
            rw [if_neg (by omega)]
          rw [Int.add_zero] at ec
          rw [← ec]
          exact ih (i + 1) _ _ _ (by omega) (by omega) (by omega)
        · refine gX_aload dX1_isAloneOnText_32 rfl ?_
          refine gX_aloadn dX1_isAloneOnText_34 rfl ?_
          refine gX_virt (J := iX3_sharesSpan) (av := [ga g]) (a := (B + 10 + 3 * i)) (st := []) dX1_isAloneOnText_35 lkX1_84 kX3_sharesSpan vX3_sharesSpan (gFit_m (by decide)) (hB.2.2.2.2.2.2.2.2.2.2.2 i (by omega) (by omega)).2.1 rfl rfl (Nat.le_of_ble_eq_true rfl) (Nat.zero_le _) (Nat.zero_le _) rfl ?_
          refine c_sharesSpan (hB.2.2.2.2.2.2.2.2.2.2.2 i (by omega) (by omega)).2 (hb.gl (by omega) (by omega)) hg hv ?_
          show gX l E _ 38 [some (ga B), some (ga g), some (gi (cntB (fun k => decide (onT (gq gs k) = 1) && decide (shr (gq gs k) q = 1)) i.toNat)), some (gi i), some (ga (B + 10 + 3 * i))] [gi (shr (gq gs i) q)] (K, R, V) _ _
          have o2 := shr_01 (gq gs i) q
          refine gX_ifeq (tgt := 44) dX1_isAloneOnText_38 (by decide) (fun w5 => ?_) (fun w5 => ?_)
          · refine gX_iinc dX1_isAloneOnText_44 rfl (show (3 : Nat) < 5 from by decide) ⟨by omega, by omega⟩ (ls2 := [some (ga B), some (ga g), some (gi (cntB (fun k => decide (onT (gq gs k) = 1) && decide (shr (gq gs k) q = 1)) i.toNat)), some (gi (i + 1)), some (ga (B + 10 + 3 * i))]) rfl ?_
            refine gX_goto (tgt := 4) dX1_isAloneOnText_47 (by decide) ?_
            have ec : cntB (fun k => decide (onT (gq gs k) = 1) && decide (shr (gq gs k) q = 1)) (i + 1).toNat = cntB (fun k => decide (onT (gq gs k) = 1) && decide (shr (gq gs k) q = 1)) i.toNat + 0 := by
              rw [show (i + 1).toNat = i.toNat + 1 by omega, cntB_s]
              simp only [Int.toNat_of_nonneg q0, Bool.and_eq_true, decide_eq_true_eq]
              rw [if_neg (by omega)]
            rw [Int.add_zero] at ec
            rw [← ec]
            exact ih (i + 1) _ _ _ (by omega) (by omega) (by omega)
          · refine gX_iinc dX1_isAloneOnText_41 rfl (show (2 : Nat) < 5 from by decide) ⟨by omega, by omega⟩ (ls2 := [some (ga B), some (ga g), some (gi ((cntB (fun k => decide (onT (gq gs k) = 1) && decide (shr (gq gs k) q = 1)) i.toNat) + 1)), some (gi i), some (ga (B + 10 + 3 * i))]) rfl ?_
            refine gX_iinc dX1_isAloneOnText_44 rfl (show (3 : Nat) < 5 from by decide) ⟨by omega, by omega⟩ (ls2 := [some (ga B), some (ga g), some (gi ((cntB (fun k => decide (onT (gq gs k) = 1) && decide (shr (gq gs k) q = 1)) i.toNat) + 1)), some (gi (i + 1)), some (ga (B + 10 + 3 * i))]) rfl ?_
            refine gX_goto (tgt := 4) dX1_isAloneOnText_47 (by decide) ?_
            have ec : cntB (fun k => decide (onT (gq gs k) = 1) && decide (shr (gq gs k) q = 1)) (i + 1).toNat = cntB (fun k => decide (onT (gq gs k) = 1) && decide (shr (gq gs k) q = 1)) i.toNat + 1 := by
              rw [show (i + 1).toNat = i.toNat + 1 by omega, cntB_s]
              simp only [Int.toNat_of_nonneg q0, Bool.and_eq_true, decide_eq_true_eq]
              rw [if_pos (by omega)]
            rw [← ec]
            exact ih (i + 1) _ _ _ (by omega) (by omega) (by omega)
  refine gX_iconst dX1_isAloneOnText_0 ⟨by decide, by decide⟩ ?_
  refine gX_istoren dX1_isAloneOnText_1 (show (2 : Nat) < 5 from by decide) (ls2 := [some (ga B), some (ga g), some (gi 0), none, none]) rfl ?_
  refine gX_iconst dX1_isAloneOnText_2 ⟨by decide, by decide⟩ ?_
  refine gX_istoren dX1_isAloneOnText_3 (show (3 : Nat) < 5 from by decide) (ls2 := [some (ga B), some (ga g), some (gi 0), some (gi 0), none]) rfl ?_
  exact lp (gs.length + 1) 0 none _ _ (by omega) (by omega) (by omega)
set_option maxRecDepth 4000 in
theorem c_greatestDepth (hB : bkK K R B) (hb : bkIs V B tx gs) (hQ : Q (some (gi (dptM gs))) (K, R, V)) : gC l E (d + 3) iX1_greatestDepth [ga B] (K, R, V) Q := by
  refine gC_of kX1_greatestDepth (ls := [some (ga B), none, none]) rfl (Nat.le_of_ble_eq_true rfl) ?_
  have h20 := hb.2.2.1
  have hcn := hb.2.1
  have lp : ∀ (jj : Nat) (i : Int) (bc bs : Nat), gs.length - i < (jj : Int) → 0 ≤ i → i ≤ gs.length → gX l E (gFm E (d + 3) iX1_greatestDepth Q) 4 [some (ga B), some (gi (maxB (fun k => dpt gs 5 k) i.toNat)), some (gi i)] [] (K, R, V) bc bs := by
    intro jj
    induction jj with
    | zero =>
      intro i bc bs hj q0 q1
      exfalso; omega
    | succ jj ih =>
      intro i bc bs hj q0 q1
      refine gX_iloadn dX1_greatestDepth_4 rfl ?_
      refine gX_aloadn dX1_greatestDepth_5 rfl ?_
      refine gX_gI 5 dX1_greatestDepth_6 fdX1_35 rfl (Or.inl rfl) hB.1 ?_
      refine gX_icmpge (tgt := 28) dX1_greatestDepth_9 (by decide) (fun w1 => ?_) (fun w1 => ?_)
      · refine gX_iloadn dX1_greatestDepth_28 rfl ?_
        refine gX_iret dX1_greatestDepth_29 (Or.inl rfl) ?_
        have ei : i.toNat = gs.length := by omega
        rw [ei]
        exact hQ
      · refine gX_iloadn dX1_greatestDepth_12 rfl ?_
        refine gX_aloadn dX1_greatestDepth_13 rfl ?_
        refine gX_iloadn dX1_greatestDepth_14 rfl ?_
        refine gX_virt (J := iX1_depthOf) (av := [gi i]) (a := B) (st := [gi (maxB (fun k => dpt gs 5 k) i.toNat)]) dX1_greatestDepth_15 lkX1_88 kX1_depthOf vX1_depthOf (gFit_m (by decide)) hB.1 rfl rfl (Nat.le_of_ble_eq_true rfl) (Nat.zero_le _) (Nat.zero_le _) rfl ?_
        refine c_depthOf hB hb ?_
        show gX l E _ 18 [some (ga B), some (gi (maxB (fun k => dpt gs 5 k) i.toNat)), some (gi i)] [gi (dpt gs 5 i), gi (maxB (fun k => dpt gs 5 k) i.toNat)] (K, R, V) _ _
        refine gX_mmax dX1_greatestDepth_18 lkX1_92 ⟨Nat.le_add_left _ _, Nat.le_add_left _ _⟩ (Nat.le_of_ble_eq_true rfl) ?_
        refine gX_istoren dX1_greatestDepth_21 (show (1 : Nat) < 3 from by decide) (ls2 := [some (ga B), some (gi (max (maxB (fun k => dpt gs 5 k) i.toNat) (dpt gs 5 i))), some (gi i)]) rfl ?_
        refine gX_iinc dX1_greatestDepth_22 rfl (show (2 : Nat) < 3 from by decide) ⟨by omega, by omega⟩ (ls2 := [some (ga B), some (gi (max (maxB (fun k => dpt gs 5 k) i.toNat) (dpt gs 5 i))), some (gi (i + 1))]) rfl ?_
        refine gX_goto (tgt := 4) dX1_greatestDepth_25 (by decide) ?_
        have ec : maxB (fun k => dpt gs 5 k) (i + 1).toNat = max (maxB (fun k => dpt gs 5 k) i.toNat) (dpt gs 5 i) := by
          rw [show (i + 1).toNat = i.toNat + 1 by omega, maxB_s, Int.toNat_of_nonneg q0]
        rw [← ec]
        exact ih (i + 1) _ _ (by omega) (by omega) (by omega)
  refine gX_iconst dX1_greatestDepth_0 ⟨by decide, by decide⟩ ?_
  refine gX_istoren dX1_greatestDepth_1 (show (1 : Nat) < 3 from by decide) (ls2 := [some (ga B), some (gi 0), none]) rfl ?_
  refine gX_iconst dX1_greatestDepth_2 ⟨by decide, by decide⟩ ?_
  refine gX_istoren dX1_greatestDepth_3 (show (2 : Nat) < 3 from by decide) (ls2 := [some (ga B), some (gi 0), some (gi 0)]) rfl ?_
  exact lp (gs.length + 1) 0 _ _ (by omega) (by omega) (by omega)
set_option maxRecDepth 4000 in
theorem c_rowWords (hB : bkK K R B) (hb : bkIs V B tx gs) (hQ : Q (some (gi (rwsC gs))) (K, R, V)) : gC l E (d + 3) iX1_rowWords [ga B] (K, R, V) Q := by
  refine gC_of kX1_rowWords (ls := [some (ga B), none, none]) rfl (Nat.le_of_ble_eq_true rfl) ?_
  have h20 := hb.2.2.1
  have hcn := hb.2.1
  have lp : ∀ (jj : Nat) (i : Int) (bc bs : Nat), gs.length - i < (jj : Int) → 0 ≤ i → i ≤ gs.length → 0 ≤ sumB (fun k => ((gq gs k).2.2.2.2.2.length : Int)) i.toNat → sumB (fun k => ((gq gs k).2.2.2.2.2.length : Int)) i.toNat ≤ 8 * i → gX l E (gFm E (d + 3) iX1_rowWords Q) 4 [some (ga B), some (gi (sumB (fun k => ((gq gs k).2.2.2.2.2.length : Int)) i.toNat)), some (gi i)] [] (K, R, V) bc bs := by
    intro jj
    induction jj with
    | zero =>
      intro i bc bs hj q0 q1 q2 q3
      exfalso; omega
    | succ jj ih =>
      intro i bc bs hj q0 q1 q2 q3
      refine gX_iloadn dX1_rowWords_4 rfl ?_
      refine gX_aloadn dX1_rowWords_5 rfl ?_
      refine gX_gI 5 dX1_rowWords_6 fdX1_35 rfl (Or.inl rfl) hB.1 ?_
      refine gX_icmpge (tgt := 29) dX1_rowWords_9 (by decide) (fun w1 => ?_) (fun w1 => ?_)
      · refine gX_iloadn dX1_rowWords_29 rfl ?_
        refine gX_iret dX1_rowWords_30 (Or.inl rfl) ?_
        have ei : i.toNat = gs.length := by omega
        rw [ei]
        exact hQ
      · refine gX_iloadn dX1_rowWords_12 rfl ?_
        refine gX_aloadn dX1_rowWords_13 rfl ?_
        refine gX_iloadn dX1_rowWords_14 rfl ?_
        refine gX_virt (J := iX1_rowOf) (av := [gi i]) (a := B) (st := [gi (sumB (fun k => ((gq gs k).2.2.2.2.2.length : Int)) i.toNat)]) dX1_rowWords_15 lkX1_101 kX1_rowOf vX1_rowOf (gFit_m (by decide)) hB.1 rfl rfl (Nat.le_of_ble_eq_true rfl) (Nat.zero_le _) (Nat.zero_le _) rfl ?_
        refine c_rowOf hB hb ?_
        show gX l E _ 18 [some (ga B), some (gi (sumB (fun k => ((gq gs k).2.2.2.2.2.length : Int)) i.toNat)), some (gi i)] [ga (rwA B gs.length i), gi (sumB (fun k => ((gq gs k).2.2.2.2.2.length : Int)) i.toNat)] (K, R, V) _ _
        obtain ⟨n9, hro, hri, -⟩ := rwA_row (h := i) hB hb
        have hl8 : (rwL tx gs i).length ≤ 8 ∧ rwL tx gs i = (gq gs i).2.2.2.2.2 := by
          unfold rwL
          rw [if_pos (by omega)]
          exact ⟨(hb.gl (by omega) (by omega)).2.2.2.2.2.2.2.1, rfl⟩
        refine gX_virt (J := iX6_length) (av := []) (a := (rwA B gs.length i)) (st := [gi (sumB (fun k => ((gq gs k).2.2.2.2.2.length : Int)) i.toNat)]) dX1_rowWords_18 lkX1_105 kX6_length vX6_length (gFit_m (by decide)) hro.1 rfl rfl (Nat.le_of_ble_eq_true rfl) (Nat.zero_le _) (Nat.zero_le _) rfl ?_
        refine q_Row_length hro hri ?_
        show gX l E _ 21 [some (ga B), some (gi (sumB (fun k => ((gq gs k).2.2.2.2.2.length : Int)) i.toNat)), some (gi i)] [gi ((rwL tx gs i).length), gi (sumB (fun k => ((gq gs k).2.2.2.2.2.length : Int)) i.toNat)] (K, R, V) _ _
        refine gX_iadd dX1_rowWords_21 ⟨by omega, by omega⟩ ?_
        refine gX_istoren dX1_rowWords_22 (show (1 : Nat) < 3 from by decide) (ls2 := [some (ga B), some (gi ((sumB (fun k => ((gq gs k).2.2.2.2.2.length : Int)) i.toNat) + ((rwL tx gs i).length))), some (gi i)]) rfl ?_
        refine gX_iinc dX1_rowWords_23 rfl (show (2 : Nat) < 3 from by decide) ⟨by omega, by omega⟩ (ls2 := [some (ga B), some (gi ((sumB (fun k => ((gq gs k).2.2.2.2.2.length : Int)) i.toNat) + ((rwL tx gs i).length))), some (gi (i + 1))]) rfl ?_
        refine gX_goto (tgt := 4) dX1_rowWords_26 (by decide) ?_
        have ec : sumB (fun k => ((gq gs k).2.2.2.2.2.length : Int)) (i + 1).toNat = sumB (fun k => ((gq gs k).2.2.2.2.2.length : Int)) i.toNat + (rwL tx gs i).length := by
          rw [show (i + 1).toNat = i.toNat + 1 by omega, sumB_s, Int.toNat_of_nonneg q0, hl8.2]
        rw [← ec]
        exact ih (i + 1) _ _ (by omega) (by omega) (by omega) (by omega) (by omega)
  refine gX_iconst dX1_rowWords_0 ⟨by decide, by decide⟩ ?_
  refine gX_istoren dX1_rowWords_1 (show (1 : Nat) < 3 from by decide) (ls2 := [some (ga B), some (gi 0), none]) rfl ?_
  refine gX_iconst dX1_rowWords_2 ⟨by decide, by decide⟩ ?_
  refine gX_istoren dX1_rowWords_3 (show (2 : Nat) < 3 from by decide) (ls2 := [some (ga B), some (gi 0), some (gi 0)]) rfl ?_
  exact lp (gs.length + 1) 0 _ _ (by omega) (by omega) (by omega) (by show (0 : Int) ≤ 0; omega) (by show (0 : Int) ≤ 8 * 0; omega)
set_option maxRecDepth 4000 in
theorem c_isInSpan {x : Int} (hB : bkK K R B) (hb : bkIs V B tx gs) (hQ : Q (some (gi (if inSp gs x = true then 1 else 0))) (K, R, V)) : gC l E (d + 2) iX1_isInSpanOfText [ga B, gi x] (K, R, V) Q := by
  refine gC_of kX1_isInSpanOfText (ls := [some (ga B), some (gi x), none, none]) rfl (Nat.le_of_ble_eq_true rfl) ?_
  have h20 := hb.2.2.1
  have hcn := hb.2.1
  have lp : ∀ (jj : Nat) (i : Int) (j3 : Option gV) (bc bs : Nat), gs.length - i < (jj : Int) → 0 ≤ i → i ≤ gs.length → anyB (fun g => decide (onT (gq gs g) = 1) && decide (cov (gq gs g) x = 1)) i.toNat = false → gX l E (gFm E (d + 2) iX1_isInSpanOfText Q) 2 [some (ga B), some (gi x), some (gi i), j3] [] (K, R, V) bc bs := by
    intro jj
    induction jj with
    | zero =>
      intro i j3 bc bs hj q0 q1 q2
      exfalso; omega
    | succ jj ih =>
      intro i j3 bc bs hj q0 q1 q2
      refine gX_iloadn dX1_isInSpanOfText_2 rfl ?_
      refine gX_aloadn dX1_isInSpanOfText_3 rfl ?_
      refine gX_gI 5 dX1_isInSpanOfText_4 fdX1_35 rfl (Or.inl rfl) hB.1 ?_
      refine gX_icmpge (tgt := 43) dX1_isInSpanOfText_7 (by decide) (fun w1 => ?_) (fun w1 => ?_)
      · refine gX_iconst dX1_isInSpanOfText_43 ⟨by decide, by decide⟩ ?_
        refine gX_iret dX1_isInSpanOfText_44 (Or.inr ⟨rfl, Or.inl rfl⟩) ?_
        have ei : i.toNat = gs.length := by omega
        rw [ei] at q2
        have e : inSp gs x = false := q2
        rw [e] at hQ
        exact hQ
      · refine gX_aloadn dX1_isInSpanOfText_10 rfl ?_
        refine gX_iloadn dX1_isInSpanOfText_11 rfl ?_
        refine gX_virt (J := iX1_glossAt) (av := [gi i]) (a := B) (st := []) dX1_isInSpanOfText_12 lkX1_58 kX1_glossAt vX1_glossAt (gFit_m (by decide)) hB.1 rfl rfl (Nat.le_of_ble_eq_true rfl) (Nat.zero_le _) (Nat.zero_le _) rfl ?_
        refine c_glossAt hB hb (by omega) (by omega) ?_
        show gX l E _ 15 [some (ga B), some (gi x), some (gi i), j3] [ga (B + 10 + 3 * i)] (K, R, V) _ _
        refine gX_astoren dX1_isInSpanOfText_15 (show (3 : Nat) < 4 from by decide) (ls2 := [some (ga B), some (gi x), some (gi i), some (ga (B + 10 + 3 * i))]) rfl ?_
        refine gX_aloadn dX1_isInSpanOfText_16 rfl ?_
        refine gX_ifnull (tgt := 37) dX1_isInSpanOfText_17 (by decide) (fun w2 => absurd (kd_pos (hB.2.2.2.2.2.2.2.2.2.2.2 i (by omega) (by omega)).2.1) (by omega)) (fun w2 => ?_)
        refine gX_aloadn dX1_isInSpanOfText_20 rfl ?_
        refine gX_virt (J := iX3_isOnText) (av := []) (a := (B + 10 + 3 * i)) (st := []) dX1_isInSpanOfText_21 lkX1_109 kX3_isOnText vX3_isOnText (gFit_m (by decide)) (hB.2.2.2.2.2.2.2.2.2.2.2 i (by omega) (by omega)).2.1 rfl rfl (Nat.le_of_ble_eq_true rfl) (Nat.zero_le _) (Nat.zero_le _) rfl ?_
        refine c_isOnText (hB.2.2.2.2.2.2.2.2.2.2.2 i (by omega) (by omega)).2 (hb.gl (by omega) (by omega)) ?_
        show gX l E _ 24 [some (ga B), some (gi x), some (gi i), some (ga (B + 10 + 3 * i))] [gi (onT (gq gs i))] (K, R, V) _ _
        have o1 := onT_01 (gq gs i)
        refine gX_ifeq (tgt := 37) dX1_isInSpanOfText_24 (by decide) (fun w3 => ?_) (fun w3 => ?_)
        · refine gX_iinc dX1_isInSpanOfText_37 rfl (show (2 : Nat) < 4 from by decide) ⟨by omega, by omega⟩ (ls2 := [some (ga B), some (gi x), some (gi (i + 1)), some (ga (B + 10 + 3 * i))]) rfl ?_
          refine gX_goto (tgt := 2) dX1_isInSpanOfText_40 (by decide) ?_
          refine ih (i + 1) _ _ _ (by omega) (by omega) (by omega) ?_
          rw [show (i + 1).toNat = i.toNat + 1 by omega, anyB_s, q2, Bool.false_or]
          simp only [Int.toNat_of_nonneg q0]
          rw [Bool.and_eq_false_iff, decide_eq_false_iff_not, decide_eq_false_iff_not]
          omega
        · refine gX_aloadn dX1_isInSpanOfText_27 rfl ?_
          refine gX_iloadn dX1_isInSpanOfText_28 rfl ?_
          refine gX_virt (J := iX3_covers) (av := [gi x]) (a := (B + 10 + 3 * i)) (st := []) dX1_isInSpanOfText_29 lkX1_113 kX3_covers vX3_covers (gFit_m (by decide)) (hB.2.2.2.2.2.2.2.2.2.2.2 i (by omega) (by omega)).2.1 rfl rfl (Nat.le_of_ble_eq_true rfl) (Nat.zero_le _) (Nat.zero_le _) rfl ?_
          refine c_covers (hB.2.2.2.2.2.2.2.2.2.2.2 i (by omega) (by omega)).2 (hb.gl (by omega) (by omega)) ?_
          show gX l E _ 32 [some (ga B), some (gi x), some (gi i), some (ga (B + 10 + 3 * i))] [gi (cov (gq gs i) x)] (K, R, V) _ _
          have o2 := cov_01 (gq gs i) x
          refine gX_ifeq (tgt := 37) dX1_isInSpanOfText_32 (by decide) (fun w4 => ?_) (fun w4 => ?_)
          · refine gX_iinc dX1_isInSpanOfText_37 rfl (show (2 : Nat) < 4 from by decide) ⟨by omega, by omega⟩ (ls2 := [some (ga B), some (gi x), some (gi (i + 1)), some (ga (B + 10 + 3 * i))]) rfl ?_
            refine gX_goto (tgt := 2) dX1_isInSpanOfText_40 (by decide) ?_
            refine ih (i + 1) _ _ _ (by omega) (by omega) (by omega) ?_
            rw [show (i + 1).toNat = i.toNat + 1 by omega, anyB_s, q2, Bool.false_or]
            simp only [Int.toNat_of_nonneg q0]
            rw [Bool.and_eq_false_iff, decide_eq_false_iff_not, decide_eq_false_iff_not]
            omega
          · refine gX_iconst dX1_isInSpanOfText_35 ⟨by decide, by decide⟩ ?_
            refine gX_iret dX1_isInSpanOfText_36 (Or.inr ⟨rfl, Or.inr rfl⟩) ?_
            have e : inSp gs x = true := anyB_t (k := i.toNat) (by omega) (by simp only [Int.toNat_of_nonneg q0, Bool.and_eq_true, decide_eq_true_eq]; omega)
            rw [e] at hQ
            exact hQ
  refine gX_iconst dX1_isInSpanOfText_0 ⟨by decide, by decide⟩ ?_
  refine gX_istoren dX1_isInSpanOfText_1 (show (2 : Nat) < 4 from by decide) (ls2 := [some (ga B), some (gi x), some (gi 0), none]) rfl ?_
  exact lp (gs.length + 1) 0 none _ _ (by omega) (by omega) (by omega) rfl
/-- one gloss of a book has changed -/
theorem bkIs.setg {V V' : Int → Int → Int} {B : Int} {tx : List Int} {gs : List gG} (h : bkIs V B tx gs) {k : Int} {q : gG} (h0 : 0 ≤ k) (h1 : k < gs.length) (hg : glIs V' (B + 10 + 3 * k) q) (hf : ∀ a, B ≤ a → a < B + 70 → a < B + 10 + 3 * k ∨ B + 13 + 3 * k ≤ a → V' a = V a) : bkIs V' B tx (gs.set k.toNat q) := by
  have h20 := h.2.2.1
  refine ⟨h.1.kept (hf _ (by omega) (by omega) (by omega)) (hf _ (by omega) (by omega) (by omega)), by rw [hf B (by omega) (by omega) (by omega), List.length_set]; exact h.2.1, by rw [List.length_set]; exact h.2.2.1, fun j q2 hj => ?_⟩
  have hl := (List.getElem?_eq_some_iff.mp hj).1
  rw [List.length_set] at hl
  by_cases c : j = k.toNat
  · subst c
    rw [List.getElem?_set_self hl] at hj
    cases hj
    rw [Int.toNat_of_nonneg h0]
    exact hg
  · rw [List.getElem?_set_ne (Ne.symm c)] at hj
    exact (h.2.2.2 j q2 hj).kept (hf _ (by omega) (by omega) (by omega)) (hf _ (by omega) (by omega) (by omega)) (hf _ (by omega) (by omega) (by omega))
theorem bkIs.sett {V V' : Int → Int → Int} {B : Int} {tx tx' : List Int} {gs : List gG} (h : bkIs V B tx gs) (ht : rIs V' (B + 1) 40 tx') (hf : ∀ a, B ≤ a → a < B + 70 → a ≠ B + 1 → a ≠ B + 2 → V' a = V a) : bkIs V' B tx' gs := by
  have h20 := h.2.2.1
  refine ⟨ht, by rw [hf B (by omega) (by omega) (by omega) (by omega)]; exact h.2.1, h.2.2.1, fun j q2 hj => ?_⟩
  have hl := (List.getElem?_eq_some_iff.mp hj).1
  exact (h.2.2.2 j q2 hj).kept (hf _ (by omega) (by omega) (by omega) (by omega)) (hf _ (by omega) (by omega) (by omega) (by omega)) (hf _ (by omega) (by omega) (by omega) (by omega))
theorem gq_set {gs : List gG} {k j : Int} {q : gG} (h0 : 0 ≤ k) (h1 : k < gs.length) (hj : 0 ≤ j) : gq (gs.set k.toNat q) j = if j = k then q else gq gs j := by
  unfold gq
  rw [List.getD_eq_getElem?_getD, List.getD_eq_getElem?_getD]
  by_cases c : j = k
  · subst c
    rw [if_pos rfl, List.getElem?_set_self (by omega)]
    rfl
  · rw [if_neg c, List.getElem?_set_ne (by omega)]
def setGone (q : gG) : gG := (q.1, q.2.1, q.2.2.1, q.2.2.2.1, 1, q.2.2.2.2.2)
theorem glIs.gone {V : Int → Int → Int} {g : Int} {q : gG} (h : glIs V g q) : glIs (gup V g 5 1) g (setGone q) := by
  obtain ⟨a1, a2, a3, a4, a5, a6, a7⟩ := h
  refine ⟨by rw [gup_o (Or.inr (by omega))]; exact a1, by rw [gup_o (Or.inr (by omega))]; exact a2, by rw [gup_o (Or.inr (by omega))]; exact a3, by rw [gup_o (Or.inr (by omega))]; exact a4, gup_s, Or.inr rfl, a7.kept (gup_ne (by omega)) (gup_ne (by omega))⟩
/-- what goes with those gone: from place h on -/
def goL (gs : List gG) : Nat → Nat → List gG
  | 0, _ => gs
  | n + 1, h => goL (if 0 ≤ (gq gs h).2.1 ∧ (gq gs h).2.1 < gs.length ∧ (gq gs (gq gs h).2.1).2.2.2.2.1 = 1 then gs.set h (setGone (gq gs h)) else gs) n (h + 1)
/-- gloss g goes, with all on its row -/
def awayG (gs : List gG) (g : Int) : List gG := goL (gs.set g.toNat (setGone (gq gs g))) (gs.length - (g.toNat + 1)) (g.toNat + 1)
set_option maxRecDepth 4000 in
theorem c_takeAway (hB : bkK K R B) (hb : bkIs V B tx gs) (h0 : 0 ≤ g) (h1 : g < gs.length) (hQ : ∀ V', bkIs V' B tx (awayG gs g) → gFr V V' (B + 10) (B + 70) → Q none (K, R, V')) : gC l E (d + 2) iX1_takeAway [ga B, gi g] (K, R, V) Q := by
  refine gC_of kX1_takeAway (ls := [some (ga B), some (gi g), none, none, none, none]) rfl (Nat.le_of_ble_eq_true rfl) ?_
  have h20 := hb.2.2.1
  have lp : ∀ (jj : Nat) (i : Int) (j4 : Option gV) (j5 : Option gV) (V1 : Int → Int → Int) (gs1 : List gG) (bc bs : Nat), gs1.length - i < (jj : Int) → 0 ≤ i → i ≤ gs1.length → gs1.length = gs.length → bkIs V1 B tx gs1 → gFr V V1 (B + 10) (B + 70) → (∀ V', bkIs V' B tx (goL gs1 (gs1.length - i.toNat) i.toNat) → gFr V V' (B + 10) (B + 70) → Q none (K, R, V')) → gX l E (gFm E (d + 2) iX1_takeAway Q) 20 [some (ga B), some (gi g), some (ga (B + 10 + 3 * g)), some (gi i), j4, j5] [] (K, R, V1) bc bs := by
    intro jj
    induction jj with
    | zero =>
      intro i j4 j5 V1 gs1 bc bs hj q0 q1 q2 hb1 hf1 hq2
      exfalso; omega
    | succ jj ih =>
      intro i j4 j5 V1 gs1 bc bs hj q0 q1 q2 hb1 hf1 hq2
      have hcn := hb1.2.1
      have h21 := hb1.2.2.1
      refine gX_iloadn dX1_takeAway_20 rfl ?_
      refine gX_aloadn dX1_takeAway_21 rfl ?_
      refine gX_gI 5 dX1_takeAway_22 fdX1_35 rfl (Or.inl rfl) hB.1 ?_
      refine gX_icmpge (tgt := 85) dX1_takeAway_25 (by decide) (fun w1 => ?_) (fun w1 => ?_)
      · refine gX_vret dX1_takeAway_85 rfl ?_
        have ei : gs1.length - i.toNat = 0 := by omega
        rw [ei] at hq2
        exact hq2 V1 hb1 hf1
      · refine gX_aloadn dX1_takeAway_28 rfl ?_
        refine gX_iloadn dX1_takeAway_29 rfl ?_
        refine gX_virt (J := iX1_glossAt) (av := [gi i]) (a := B) (st := []) dX1_takeAway_30 lkX1_58 kX1_glossAt vX1_glossAt (gFit_m (by decide)) hB.1 rfl rfl (Nat.le_of_ble_eq_true rfl) (Nat.zero_le _) (Nat.zero_le _) rfl ?_
        refine c_glossAt hB hb1 (by omega) (by omega) ?_
        show gX l E _ 33 [some (ga B), some (gi g), some (ga (B + 10 + 3 * g)), some (gi i), j4, j5] [ga (B + 10 + 3 * i)] (K, R, V1) _ _
        refine gX_astore dX1_takeAway_33 (show (4 : Nat) < 6 from by decide) (ls2 := [some (ga B), some (gi g), some (ga (B + 10 + 3 * g)), some (gi i), some (ga (B + 10 + 3 * i)), j5]) rfl ?_
        refine gX_aload dX1_takeAway_35 rfl ?_
        refine gX_ifnonnull (tgt := 44) dX1_takeAway_37 (by decide) (fun w2 => ?_) (fun w2 => absurd (kd_pos (hB.2.2.2.2.2.2.2.2.2.2.2 i (by omega) (by omega)).2.1) (by omega))
        refine gX_aloadn dX1_takeAway_44 rfl ?_
        refine gX_aload dX1_takeAway_45 rfl ?_
        refine gX_gI 2 dX1_takeAway_47 fdX1_71 rfl (Or.inl rfl) (hB.2.2.2.2.2.2.2.2.2.2.2 i (by omega) (by omega)).2.1 ?_
        rw [(hb1.gl q0 (by omega)).2.1]
        generalize hyy : (gq gs1 i).2.1 = y
        by_cases hy : 0 ≤ y ∧ y < gs1.length
        · refine gX_virt (J := iX1_glossAt) (av := [gi y]) (a := B) (st := []) dX1_takeAway_50 lkX1_58 kX1_glossAt vX1_glossAt (gFit_m (by decide)) hB.1 rfl rfl (Nat.le_of_ble_eq_true rfl) (Nat.zero_le _) (Nat.zero_le _) rfl ?_
          refine c_glossAt hB hb1 hy.1 hy.2 ?_
          show gX l E _ 53 [some (ga B), some (gi g), some (ga (B + 10 + 3 * g)), some (gi i), some (ga (B + 10 + 3 * i)), j5] [ga (B + 10 + 3 * y)] (K, R, V1) _ _
          refine gX_astore dX1_takeAway_53 (show (5 : Nat) < 6 from by decide) (ls2 := [some (ga B), some (gi g), some (ga (B + 10 + 3 * g)), some (gi i), some (ga (B + 10 + 3 * i)), some (ga (B + 10 + 3 * y))]) rfl ?_
          refine gX_aload dX1_takeAway_55 rfl ?_
          refine gX_ifnull (tgt := 79) dX1_takeAway_57 (by decide) (fun u1 => absurd (kd_pos (hB.2.2.2.2.2.2.2.2.2.2.2 i (by omega) (by omega)).2.1) (by omega)) (fun u1 => ?_)
          refine gX_aload dX1_takeAway_60 rfl ?_
          refine gX_ifnull (tgt := 79) dX1_takeAway_62 (by decide) (fun u2 => absurd (kd_pos (hB.2.2.2.2.2.2.2.2.2.2.2 y hy.1 (by omega)).2.1) (by omega)) (fun u2 => ?_)
          refine gX_aload dX1_takeAway_65 rfl ?_
          refine gX_gI 5 dX1_takeAway_67 fdX1_80 rfl (Or.inr rfl) (hB.2.2.2.2.2.2.2.2.2.2.2 y hy.1 (by omega)).2.1 ?_
          rw [(hb1.gl hy.1 hy.2).2.2.2.2.1]
          have o5 := (hb1.gl hy.1 hy.2).2.2.2.2.2.1
          refine gX_ifeq (tgt := 79) dX1_takeAway_70 (by decide) (fun u3 => ?_) (fun u3 => ?_)
          · refine gX_iinc dX1_takeAway_79 rfl (show (3 : Nat) < 6 from by decide) ⟨by omega, by omega⟩ (ls2 := [some (ga B), some (gi g), some (ga (B + 10 + 3 * g)), some (gi (i + 1)), some (ga (B + 10 + 3 * i)), some (ga (B + 10 + 3 * y))]) rfl ?_
            refine gX_goto (tgt := 20) dX1_takeAway_82 (by decide) ?_
            have ek : gs1.length - (i.toNat) = (gs1.length - (i.toNat + 1)) + 1 := by omega
            rw [ek] at hq2
            have eg : goL gs1 (gs1.length - (i.toNat + 1) + 1) i.toNat = goL gs1 (gs1.length - (i.toNat + 1)) (i.toNat + 1) := by
              show goL (if _ then _ else _) _ _ = _
              rw [Int.toNat_of_nonneg q0, hyy, if_neg (by omega)]
            rw [eg] at hq2
            refine ih (i + 1) _ _ V1 gs1 _ _ (by omega) (by omega) (by omega) q2 hb1 hf1 ?_
            rw [show (i + 1).toNat = i.toNat + 1 by omega]
            exact hq2
          · refine gX_aload dX1_takeAway_73 rfl ?_
            refine gX_iconst dX1_takeAway_75 ⟨by decide, by decide⟩ ?_
            refine gX_pI 5 dX1_takeAway_76 fdX1_80 fpX1_80 rfl (Or.inr ⟨rfl, Or.inr rfl⟩) (hB.2.2.2.2.2.2.2.2.2.2.2 i (by omega) (by omega)).2.1 ?_
            refine gX_iinc dX1_takeAway_79 rfl (show (3 : Nat) < 6 from by decide) ⟨by omega, by omega⟩ (ls2 := [some (ga B), some (gi g), some (ga (B + 10 + 3 * g)), some (gi (i + 1)), some (ga (B + 10 + 3 * i)), some (ga (B + 10 + 3 * y))]) rfl ?_
            refine gX_goto (tgt := 20) dX1_takeAway_82 (by decide) ?_
            have ek : gs1.length - (i.toNat) = (gs1.length - (i.toNat + 1)) + 1 := by omega
            rw [ek] at hq2
            have eg : goL gs1 (gs1.length - (i.toNat + 1) + 1) i.toNat = goL (gs1.set i.toNat (setGone (gq gs1 i))) (gs1.length - (i.toNat + 1)) (i.toNat + 1) := by
              show goL (if _ then _ else _) _ _ = _
              rw [Int.toNat_of_nonneg q0, hyy, if_pos (by omega)]
            rw [eg] at hq2
            refine ih (i + 1) _ _ (gup V1 (B + 10 + 3 * i) 5 1) (gs1.set i.toNat (setGone (gq gs1 i))) _ _ (by rw [List.length_set]; omega) (by omega) (by rw [List.length_set]; omega) (by rw [List.length_set]; omega) (hb1.setg q0 (by omega) (hb1.gl q0 (by omega)).gone (fun a _ _ h9 => gup_ne (by omega))) (hf1.trans (gup_fr (by omega) (by omega))) ?_
            rw [List.length_set, show (i + 1).toNat = i.toNat + 1 by omega]
            exact hq2
        · refine gX_virt (J := iX1_glossAt) (av := [gi y]) (a := B) (st := []) dX1_takeAway_50 lkX1_58 kX1_glossAt vX1_glossAt (gFit_m (by decide)) hB.1 rfl rfl (Nat.le_of_ble_eq_true rfl) (Nat.zero_le _) (Nat.zero_le _) rfl ?_
          refine c_glossAtN hB hb1 hy ?_
          show gX l E _ 53 [some (ga B), some (gi g), some (ga (B + 10 + 3 * g)), some (gi i), some (ga (B + 10 + 3 * i)), j5] [ga (-1)] (K, R, V1) _ _
          refine gX_astore dX1_takeAway_53 (show (5 : Nat) < 6 from by decide) (ls2 := [some (ga B), some (gi g), some (ga (B + 10 + 3 * g)), some (gi i), some (ga (B + 10 + 3 * i)), some (ga (-1))]) rfl ?_
          refine gX_aload dX1_takeAway_55 rfl ?_
          refine gX_ifnull (tgt := 79) dX1_takeAway_57 (by decide) (fun v1 => absurd (kd_pos (hB.2.2.2.2.2.2.2.2.2.2.2 i (by omega) (by omega)).2.1) (by omega)) (fun v1 => ?_)
          refine gX_aload dX1_takeAway_60 rfl ?_
          refine gX_ifnull (tgt := 79) dX1_takeAway_62 (by decide) (fun v2 => ?_) (fun v2 => absurd v2 (by omega))
          refine gX_iinc dX1_takeAway_79 rfl (show (3 : Nat) < 6 from by decide) ⟨by omega, by omega⟩ (ls2 := [some (ga B), some (gi g), some (ga (B + 10 + 3 * g)), some (gi (i + 1)), some (ga (B + 10 + 3 * i)), some (ga (-1))]) rfl ?_
          refine gX_goto (tgt := 20) dX1_takeAway_82 (by decide) ?_
          have ek : gs1.length - (i.toNat) = (gs1.length - (i.toNat + 1)) + 1 := by omega
          rw [ek] at hq2
          have eg : goL gs1 (gs1.length - (i.toNat + 1) + 1) i.toNat = goL gs1 (gs1.length - (i.toNat + 1)) (i.toNat + 1) := by
            show goL (if _ then _ else _) _ _ = _
            rw [Int.toNat_of_nonneg q0, hyy, if_neg (by omega)]
          rw [eg] at hq2
          refine ih (i + 1) _ _ V1 gs1 _ _ (by omega) (by omega) (by omega) q2 hb1 hf1 ?_
          rw [show (i + 1).toNat = i.toNat + 1 by omega]
          exact hq2
  refine gX_aloadn dX1_takeAway_0 rfl ?_
  refine gX_iloadn dX1_takeAway_1 rfl ?_
  refine gX_virt (J := iX1_glossAt) (av := [gi g]) (a := B) (st := []) dX1_takeAway_2 lkX1_58 kX1_glossAt vX1_glossAt (gFit_m (by decide)) hB.1 rfl rfl (Nat.le_of_ble_eq_true rfl) (Nat.zero_le _) (Nat.zero_le _) rfl ?_
  refine c_glossAt hB hb h0 h1 ?_
  show gX l E _ 5 [some (ga B), some (gi g), none, none, none, none] [ga (B + 10 + 3 * g)] (K, R, V) _ _
  refine gX_astoren dX1_takeAway_5 (show (2 : Nat) < 6 from by decide) (ls2 := [some (ga B), some (gi g), some (ga (B + 10 + 3 * g)), none, none, none]) rfl ?_
  refine gX_aloadn dX1_takeAway_6 rfl ?_
  refine gX_ifnonnull (tgt := 11) dX1_takeAway_7 (by decide) (fun m1 => ?_) (fun m1 => absurd (kd_pos (hB.2.2.2.2.2.2.2.2.2.2.2 g h0 (by omega)).2.1) (by omega))
  refine gX_aloadn dX1_takeAway_11 rfl ?_
  refine gX_iconst dX1_takeAway_12 ⟨by decide, by decide⟩ ?_
  refine gX_pI 5 dX1_takeAway_13 fdX1_80 fpX1_80 rfl (Or.inr ⟨rfl, Or.inr rfl⟩) (hB.2.2.2.2.2.2.2.2.2.2.2 g h0 (by omega)).2.1 ?_
  refine gX_iloadn dX1_takeAway_16 rfl ?_
  refine gX_iconst dX1_takeAway_17 ⟨by decide, by decide⟩ ?_
  refine gX_iadd dX1_takeAway_18 ⟨by omega, by omega⟩ ?_
  refine gX_istoren dX1_takeAway_19 (show (3 : Nat) < 6 from by decide) (ls2 := [some (ga B), some (gi g), some (ga (B + 10 + 3 * g)), some (gi (g + 1)), none, none]) rfl ?_
  refine lp (gs.length + 1) (g + 1) none none (gup V (B + 10 + 3 * g) 5 1) (gs.set g.toNat (setGone (gq gs g))) _ _ (by rw [List.length_set]; omega) (by omega) (by rw [List.length_set]; omega) (by rw [List.length_set]) (hb.setg h0 h1 (hb.gl h0 h1).gone (fun a _ _ h9 => gup_ne (by omega))) (gup_fr (by omega) (by omega)) ?_
  rw [List.length_set, show (g + 1).toNat = g.toNat + 1 by omega]
  exact hQ
end BOOK2
