/-! Witnesses: pairs that clash. Written by wip/whole/tools/mk_wit3.py. -/
def cpI (gr : List Int) (i : Int) : Nat → Int → Int → Int
  | 0, _, n => n
  | j + 1, k, n => cpI gr i j (k + 1) (if cla (lat gr i) (lat gr k) = true then n + 1 else n)
def cpF (gr : List Int) : Nat → Int → Int → Int
  | 0, _, n => n
  | j + 1, i, n => cpF gr j (i + 1) (cpI gr i i.toNat 0 n)
theorem cpI_bd {gr : List Int} {i : Int} : ∀ (j : Nat) (k n : Int), n ≤ cpI gr i j k n ∧ cpI gr i j k n ≤ n + j
  | 0, _, n => ⟨Int.le_refl _, by show n ≤ n + ((0 : Nat) : Int); omega⟩
  | j + 1, k, n => by
    by_cases c : cla (lat gr i) (lat gr k) = true
    · have e : cpI gr i (j + 1) k n = cpI gr i j (k + 1) (n + 1) := by
        show cpI gr i j (k + 1) (if _ then _ else _) = _
        rw [if_pos c]
      rw [e]; have := cpI_bd (gr := gr) (i := i) j (k + 1) (n + 1); omega
    · have e : cpI gr i (j + 1) k n = cpI gr i j (k + 1) n := by
        show cpI gr i j (k + 1) (if _ then _ else _) = _
        rw [if_neg c]
      rw [e]; have := cpI_bd (gr := gr) (i := i) j (k + 1) n; omega
section WIT3
variable {l : Launch} {E : gE} {d : Nat} {K : List gK} {R V : Int → Int → Int} {W : Int} {Q : gQ} {gr : List Int}
set_option maxRecDepth 4000 in
theorem c_clashing (hW : wtK K R W) (hg : rIs V (W + 3) 160 gr) (hQ : Q (some (gi (cpF gr gr.length 0 0))) (K, R, V)) : gC l E (d + 2) iX10_clashingPairs [ga W] (K, R, V) Q := by
  refine gC_of kX10_clashingPairs (ls := [some (ga W), none, none, none]) rfl (Nat.le_of_ble_eq_true rfl) ?_
  have hgl := hg.2.1
  have lp : ∀ (jj : Nat) (i : Int) (n : Int) (j3 : Option gV) (bc bs : Nat), (gr.length : Int) - i < (jj : Int) → 0 ≤ i → i ≤ gr.length → 0 ≤ n → n ≤ 1000 * i → (Q (some (gi (cpF gr (gr.length - i.toNat) i n))) (K, R, V)) → gX l E (gFm E (d + 2) iX10_clashingPairs Q) 4 [some (ga W), some (gi n), some (gi i), j3] [] (K, R, V) bc bs := by
    intro jj
    induction jj with
    | zero =>
      intro i n j3 bc bs hj q0 q1 q2 q3 hq2
      exfalso; omega
    | succ jj ih =>
      intro i n j3 bc bs hj q0 q1 q2 q3 hq2
      refine gX_iloadn dX10_clashingPairs_4 rfl ?_
      refine gX_aloadn dX10_clashingPairs_5 rfl ?_
      refine gX_gR 1 dX10_clashingPairs_6 fdX10_20 rfl rfl hW.1 hW.2.2.1 ?_
      refine gX_virt (J := iX6_length) (av := []) (a := (W + 3)) (st := [gi i]) dX10_clashingPairs_9 lkX10_87 kX6_length vX6_length (gFit_m (by decide)) hW.2.2.2.2.2.1.1 rfl rfl (Nat.le_of_ble_eq_true rfl) (Nat.zero_le _) (Nat.zero_le _) rfl ?_
      refine q_Row_length hW.2.2.2.2.2.1 hg ?_
      show gX l E _ 12 [some (ga W), some (gi n), some (gi i), j3] [gi gr.length, gi i] (K, R, V) _ _
      refine gX_icmpge (tgt := 59) dX10_clashingPairs_12 (by decide) (fun m1 => ?_) (fun m1 => ?_)
      · refine gX_iloadn dX10_clashingPairs_59 rfl ?_
        refine gX_iret dX10_clashingPairs_60 (Or.inl rfl) ?_
        have ei : gr.length - i.toNat = 0 := by omega
        rw [ei] at hq2
        exact hq2
      · refine gX_iconst dX10_clashingPairs_15 ⟨by decide, by decide⟩ ?_
        refine gX_istoren dX10_clashingPairs_16 (show (3 : Nat) < 4 from by decide) (ls2 := [some (ga W), some (gi n), some (gi i), some (gi 0)]) rfl ?_
        have lq : ∀ (jj : Nat) (k : Int) (n : Int) (bc bs : Nat), i - k < (jj : Int) → 0 ≤ k → k ≤ i → 0 ≤ n → n ≤ 1000 * i + k → (∀ n2 (k2 : Option gV) bc bs, n2 = cpI gr i (i - k).toNat k n → gX l E (gFm E (d + 2) iX10_clashingPairs Q) 53 [some (ga W), some (gi n2), some (gi i), k2] [] (K, R, V) bc bs) → gX l E (gFm E (d + 2) iX10_clashingPairs Q) 17 [some (ga W), some (gi n), some (gi i), some (gi k)] [] (K, R, V) bc bs := by
          intro jj
          induction jj with
          | zero =>
            intro k n bc bs hj k0 k1 k2 k3 hk2
            exfalso; omega
          | succ jj ih =>
            intro k n bc bs hj k0 k1 k2 k3 hk2
            refine gX_iloadn dX10_clashingPairs_17 rfl ?_
            refine gX_iloadn dX10_clashingPairs_18 rfl ?_
            refine gX_icmpge (tgt := 53) dX10_clashingPairs_19 (by decide) (fun w1 => ?_) (fun w1 => ?_)
            · have ei : (i - k).toNat = 0 := by omega
              rw [ei] at hk2
              exact hk2 n _ _ _ rfl
            · refine gX_aloadn dX10_clashingPairs_22 rfl ?_
              refine gX_gR 1 dX10_clashingPairs_23 fdX10_20 rfl rfl hW.1 hW.2.2.1 ?_
              refine gX_iloadn dX10_clashingPairs_26 rfl ?_
              refine gX_virt (J := iX6_at) (av := [gi i]) (a := (W + 3)) (st := []) dX10_clashingPairs_27 lkX10_43 kX6_at vX6_at (gFit_m (by decide)) hW.2.2.2.2.2.1.1 rfl rfl (Nat.le_of_ble_eq_true rfl) (Nat.zero_le _) (Nat.zero_le _) rfl ?_
              refine q_Row_at hW.2.2.2.2.2.1 hg ?_
              show gX l E _ 30 [some (ga W), some (gi n), some (gi i), some (gi k)] [gi (lat gr i)] (K, R, V) _ _
              refine gX_aloadn dX10_clashingPairs_30 rfl ?_
              refine gX_gR 1 dX10_clashingPairs_31 fdX10_20 rfl rfl hW.1 hW.2.2.1 ?_
              refine gX_iloadn dX10_clashingPairs_34 rfl ?_
              refine gX_virt (J := iX6_at) (av := [gi k]) (a := (W + 3)) (st := [gi (lat gr i)]) dX10_clashingPairs_35 lkX10_43 kX6_at vX6_at (gFit_m (by decide)) hW.2.2.2.2.2.1.1 rfl rfl (Nat.le_of_ble_eq_true rfl) (Nat.zero_le _) (Nat.zero_le _) rfl ?_
              refine q_Row_at hW.2.2.2.2.2.1 hg ?_
              show gX l E _ 38 [some (ga W), some (gi n), some (gi i), some (gi k)] [gi (lat gr k), gi (lat gr i)] (K, R, V) _ _
              refine gX_stat (J := iX10_doClash) (av := [gi (lat gr i), gi (lat gr k)]) (st := []) dX10_clashingPairs_38 lkX10_91 kX10_doClash sX10_doClash (gFit_m (by decide)) rfl (Nat.le_of_ble_eq_true rfl) (Nat.zero_le _) (Nat.zero_le _) rfl ?_
              refine c_doClash ?_
              show gX l E _ 41 [some (ga W), some (gi n), some (gi i), some (gi k)] [gi (b2i (cla (lat gr i) (lat gr k)))] (K, R, V) _ _
              refine gX_ifeq (tgt := 47) dX10_clashingPairs_41 (by decide) (fun w2 => ?_) (fun w2 => ?_)
              · refine gX_iinc dX10_clashingPairs_47 rfl (show (3 : Nat) < 4 from by decide) ⟨by omega, by omega⟩ (ls2 := [some (ga W), some (gi n), some (gi i), some (gi (k + 1))]) rfl ?_
                refine gX_goto (tgt := 17) dX10_clashingPairs_50 (by decide) ?_
                have ek : (i - k).toNat = (i - (k + 1)).toNat + 1 := by omega
                have e1 : cpI gr i (i - k).toNat k n = cpI gr i (i - (k + 1)).toNat (k + 1) (n) := by
                  rw [ek]
                  show cpI gr i _ _ (if _ then _ else _) = _
                  rw [if_neg (by rw [b2i_0 (b := cla (lat gr i) (lat gr k)) (by assumption)]; decide)]
                rw [e1] at hk2
                exact ih (k + 1) _ _ _ (by omega) (by omega) (by omega) (by omega) (by omega) hk2
              · refine gX_iinc dX10_clashingPairs_44 rfl (show (1 : Nat) < 4 from by decide) ⟨by omega, by omega⟩ (ls2 := [some (ga W), some (gi (n + 1)), some (gi i), some (gi k)]) rfl ?_
                refine gX_iinc dX10_clashingPairs_47 rfl (show (3 : Nat) < 4 from by decide) ⟨by omega, by omega⟩ (ls2 := [some (ga W), some (gi (n + 1)), some (gi i), some (gi (k + 1))]) rfl ?_
                refine gX_goto (tgt := 17) dX10_clashingPairs_50 (by decide) ?_
                have ek : (i - k).toNat = (i - (k + 1)).toNat + 1 := by omega
                have e1 : cpI gr i (i - k).toNat k n = cpI gr i (i - (k + 1)).toNat (k + 1) (n + 1) := by
                  rw [ek]
                  show cpI gr i _ _ (if _ then _ else _) = _
                  rw [if_pos (b2i_1 (b := cla (lat gr i) (lat gr k)) (by assumption))]
                rw [e1] at hk2
                exact ih (k + 1) _ _ _ (by omega) (by omega) (by omega) (by omega) (by omega) hk2
        refine lq (i.toNat + 1) 0 n _ _ (by omega) (by omega) (by omega) (by omega) (by omega) (fun n2 k2 bc bs hn2 => ?_)
        refine gX_iinc dX10_clashingPairs_53 rfl (show (2 : Nat) < 4 from by decide) ⟨by omega, by omega⟩ (ls2 := [some (ga W), some (gi n2), some (gi (i + 1)), k2]) rfl ?_
        refine gX_goto (tgt := 4) dX10_clashingPairs_56 (by decide) ?_
        have ek : gr.length - i.toNat = (gr.length - (i + 1).toNat) + 1 := by omega
        have e1 : cpF gr (gr.length - i.toNat) i n = cpF gr (gr.length - (i + 1).toNat) (i + 1) (cpI gr i i.toNat 0 n) := by rw [ek]; rfl
        rw [e1] at hq2
        rw [show (i - 0).toNat = i.toNat by omega] at hn2
        rw [← hn2] at hq2
        have hbd := cpI_bd (gr := gr) (i := i) i.toNat 0 n
        rw [← hn2] at hbd
        exact ih (i + 1) n2 _ _ _ (by omega) (by omega) (by omega) (by omega) (by omega) hq2
  refine gX_iconst dX10_clashingPairs_0 ⟨by decide, by decide⟩ ?_
  refine gX_istoren dX10_clashingPairs_1 (show (1 : Nat) < 4 from by decide) (ls2 := [some (ga W), some (gi 0), none, none]) rfl ?_
  refine gX_iconst dX10_clashingPairs_2 ⟨by decide, by decide⟩ ?_
  refine gX_istoren dX10_clashingPairs_3 (show (2 : Nat) < 4 from by decide) (ls2 := [some (ga W), some (gi 0), some (gi 0), none]) rfl ?_
  exact lp (gr.length + 1) 0 0 none _ _ (by omega) (by omega) (by omega) (by omega) (by omega) hQ
end WIT3
