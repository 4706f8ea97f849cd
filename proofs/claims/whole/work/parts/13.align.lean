/-! Alignment. Written by wip/whole/tools/mk_align.py. -/
def gAl (K : List gK) (R : Int → Int → Int) (al : Int) : Prop := kd (K, R, fun _ _ => 0) al = some (.inl 0) ∧ kd (K, R, fun _ _ => 0) (al + 1) = some (.inr (0, 1681)) ∧ R al 0 = al + 1 ∧ R al 1 = al + 2 ∧ R al 2 = al + 4 ∧ gRow K R (al + 2) 40 ∧ gRow K R (al + 4) 40
/-- nothing but the cells lo .. hi - 1 has changed -/
def gFr (V V' : Int → Int → Int) (lo hi : Int) : Prop := ∀ a, a < lo ∨ hi ≤ a → V' a = V a
theorem gFr.trans {V V1 V2 : Int → Int → Int} {lo hi : Int} (h : gFr V V1 lo hi) (h2 : gFr V1 V2 lo hi) : gFr V V2 lo hi := fun a h1 => (h2 a h1).trans (h a h1)
theorem gFr.rf {V : Int → Int → Int} {lo hi : Int} : gFr V V lo hi := fun _ _ => rfl
theorem gFr.wide {V V1 : Int → Int → Int} {lo hi lo2 hi2 : Int} (h : gFr V V1 lo hi) (h1 : lo2 ≤ lo) (h2 : hi ≤ hi2) : gFr V V1 lo2 hi2 := fun a h3 => h a (by omega)
theorem rFr.fr {V V1 : Int → Int → Int} {r : Int} (h : rFr V V1 r) {lo hi : Int} (h1 : lo ≤ r) (h2 : r + 2 ≤ hi) : gFr V V1 lo hi := fun a h3 => h a (by omega) (by omega)
theorem gup_fr {V : Int → Int → Int} {a k x lo hi : Int} (h1 : lo ≤ a) (h2 : a < hi) : gFr V (gup V a k x) lo hi := fun b h3 => gup_ne (by omega)
theorem rIs.fr {V V1 : Int → Int → Int} {r : Int} {n : Nat} {xs : List Int} (h : rIs V r n xs) {lo hi : Int} (hf : gFr V V1 lo hi) (h1 : r + 1 < lo ∨ hi ≤ r) : rIs V1 r n xs := h.kept (hf r (by omega)) (hf (r + 1) (by omega))
def cAt (V : Int → Int → Int) (c i j : Int) : Int := if 0 ≤ i ∧ i < 41 ∧ 0 ≤ j ∧ j < 41 then V c (i * 41 + j) else 0
/-- the rows of costs from i0 on stand -/
def cIs (V : Int → Int → Int) (c : Int) (xs ys : List Int) (i0 : Int) : Prop := ∀ i j : Nat, i0 ≤ i → i ≤ xs.length → j ≤ ys.length → V c ((i : Int) * 41 + j) = Dd xs ys i j
section ALIGN
variable {l : Launch} {E : gE} {d : Nat} {K : List gK} {R V : Int → Int → Int} {al ra rb : Int} {Q : gQ} {xs ys : List Int}
set_option maxRecDepth 4000 in
theorem c_costAt {i j : Int} (ha : gAl K R al) (hQ : Q (some (gi (cAt V (al + 1) i j))) (K, R, V)) : gC l E (d + 1) iX0_costAt [ga al, gi i, gi j] (K, R, V) Q := by
  refine gC_of kX0_costAt (ls := [some (ga al), some (gi i), some (gi j)]) rfl (Nat.le_of_ble_eq_true rfl) ?_
  refine gX_iloadn dX0_costAt_0 rfl ?_
  refine gX_iflt (tgt := 34) dX0_costAt_1 (by decide) (fun h1 => ?_) (fun h1 => ?_)
  · refine gX_iconst dX0_costAt_34 ⟨by decide, by decide⟩ ?_
    refine gX_iret dX0_costAt_35 (Or.inl rfl) ?_
    have e : cAt V (al + 1) i j = 0 := by unfold cAt; split <;> omega
    rw [← e]
    exact hQ
  · refine gX_iloadn dX0_costAt_4 rfl ?_
    refine gX_bipush dX0_costAt_5 (by decide) ⟨by decide, by decide⟩ ?_
    refine gX_icmpge (tgt := 34) dX0_costAt_7 (by decide) (fun h2 => ?_) (fun h2 => ?_)
    · refine gX_iconst dX0_costAt_34 ⟨by decide, by decide⟩ ?_
      refine gX_iret dX0_costAt_35 (Or.inl rfl) ?_
      have e : cAt V (al + 1) i j = 0 := by unfold cAt; split <;> omega
      rw [← e]
      exact hQ
    · refine gX_iloadn dX0_costAt_10 rfl ?_
      refine gX_iflt (tgt := 34) dX0_costAt_11 (by decide) (fun h3 => ?_) (fun h3 => ?_)
      · refine gX_iconst dX0_costAt_34 ⟨by decide, by decide⟩ ?_
        refine gX_iret dX0_costAt_35 (Or.inl rfl) ?_
        have e : cAt V (al + 1) i j = 0 := by unfold cAt; split <;> omega
        rw [← e]
        exact hQ
      · refine gX_iloadn dX0_costAt_14 rfl ?_
        refine gX_bipush dX0_costAt_15 (by decide) ⟨by decide, by decide⟩ ?_
        refine gX_icmpge (tgt := 34) dX0_costAt_17 (by decide) (fun h4 => ?_) (fun h4 => ?_)
        · refine gX_iconst dX0_costAt_34 ⟨by decide, by decide⟩ ?_
          refine gX_iret dX0_costAt_35 (Or.inl rfl) ?_
          have e : cAt V (al + 1) i j = 0 := by unfold cAt; split <;> omega
          rw [← e]
          exact hQ
        · refine gX_aloadn dX0_costAt_20 rfl ?_
          refine gX_gR 0 dX0_costAt_21 fdX0_11 rfl rfl ha.1 ha.2.2.1 ?_
          refine gX_iloadn dX0_costAt_24 rfl ?_
          refine gX_bipush dX0_costAt_25 (by decide) ⟨by decide, by decide⟩ ?_
          refine gX_imul dX0_costAt_27 ⟨by omega, by omega⟩ ?_
          refine gX_iloadn dX0_costAt_28 rfl ?_
          refine gX_iadd dX0_costAt_29 ⟨by omega, by omega⟩ ?_
          refine gX_iald dX0_costAt_30 ha.2.1 (by omega) (by omega) ?_
          refine gX_goto (tgt := 35) dX0_costAt_31 (by decide) ?_
          refine gX_iret dX0_costAt_35 (Or.inl rfl) ?_
          have e : cAt V (al + 1) i j = V (al + 1) ((i * 41) + j) := by unfold cAt; split <;> omega
          rw [← e]
          exact hQ
set_option maxRecDepth 4000 in
theorem c_setCost {i j x : Int} (ha : gAl K R al) (h0 : 0 ≤ i ∧ i < 41 ∧ 0 ≤ j ∧ j < 41) (hQ : Q none (K, R, gup V (al + 1) (i * 41 + j) x)) : gC l E (d + 1) iX0_setCost [ga al, gi i, gi j, gi x] (K, R, V) Q := by
  refine gC_of kX0_setCost (ls := [some (ga al), some (gi i), some (gi j), some (gi x)]) rfl (Nat.le_of_ble_eq_true rfl) ?_
  refine gX_iloadn dX0_setCost_0 rfl ?_
  refine gX_iflt (tgt := 32) dX0_setCost_1 (by decide) (fun h1 => ?_) (fun h1 => ?_)
  · exfalso; omega
  · refine gX_iloadn dX0_setCost_4 rfl ?_
    refine gX_bipush dX0_setCost_5 (by decide) ⟨by decide, by decide⟩ ?_
    refine gX_icmpge (tgt := 32) dX0_setCost_7 (by decide) (fun h2 => ?_) (fun h2 => ?_)
    · exfalso; omega
    · refine gX_iloadn dX0_setCost_10 rfl ?_
      refine gX_iflt (tgt := 32) dX0_setCost_11 (by decide) (fun h3 => ?_) (fun h3 => ?_)
      · exfalso; omega
      · refine gX_iloadn dX0_setCost_14 rfl ?_
        refine gX_bipush dX0_setCost_15 (by decide) ⟨by decide, by decide⟩ ?_
        refine gX_icmpge (tgt := 32) dX0_setCost_17 (by decide) (fun h4 => ?_) (fun h4 => ?_)
        · exfalso; omega
        · refine gX_aloadn dX0_setCost_20 rfl ?_
          refine gX_gR 0 dX0_setCost_21 fdX0_11 rfl rfl ha.1 ha.2.2.1 ?_
          refine gX_iloadn dX0_setCost_24 rfl ?_
          refine gX_bipush dX0_setCost_25 (by decide) ⟨by decide, by decide⟩ ?_
          refine gX_imul dX0_setCost_27 ⟨by omega, by omega⟩ ?_
          refine gX_iloadn dX0_setCost_28 rfl ?_
          refine gX_iadd dX0_setCost_29 ⟨by omega, by omega⟩ ?_
          refine gX_iloadn dX0_setCost_30 rfl ?_
          refine gX_iast dX0_setCost_31 ha.2.1 (by omega) (by omega) ?_
          exact gX_vret dX0_setCost_32 rfl hQ
theorem cAt_is {V : Int → Int → Int} {c : Int} {i0 : Int} (h : cIs V c xs ys i0) (hx : xs.length ≤ 40) (hy : ys.length ≤ 40) {i j : Int} (hi : i0 ≤ i) (h0 : 0 ≤ i) (h1 : i ≤ xs.length) (h2 : 0 ≤ j) (h3 : j ≤ ys.length) : cAt V c i j = Dd xs ys i.toNat j.toNat := by
  unfold cAt
  rw [if_pos (by omega)]
  have := h i.toNat j.toNat (by omega) (by omega) (by omega)
  rw [Int.toNat_of_nonneg h0, Int.toNat_of_nonneg h2] at this
  exact this
/-- row i stands from place j on, and all rows behind it -/
def cRow (V : Int → Int → Int) (c : Int) (xs ys : List Int) (i j : Int) : Prop := ∀ i' j' : Nat, i' ≤ xs.length → j' ≤ ys.length → (i < i' ∨ (i' = i ∧ j ≤ j')) → V c ((i' : Int) * 41 + j') = Dd xs ys i' j'
theorem cRow_up {V : Int → Int → Int} {c : Int} {i j : Int} (h : cRow V c xs ys i (j + 1)) (hy : ys.length ≤ 40) (h0 : 0 ≤ i) (h1 : 0 ≤ j) (h2 : j ≤ ys.length) {x : Int} (hx : x = Dd xs ys i.toNat j.toNat) : cRow (gup V c (i * 41 + j) x) c xs ys i j := by
  intro i' j' g1 g2 g3
  by_cases e : (i' : Int) = i ∧ (j' : Int) = j
  · have e1 : i.toNat = i' := by omega
    have e2 : j.toNat = j' := by omega
    rw [e1, e2] at hx
    rw [hx, ← e.1, ← e.2]
    exact gup_s
  · rw [gup_o (Or.inr (by omega))]
    exact h i' j' g1 g2 (by omega)
theorem cRow_at {V : Int → Int → Int} {c : Int} {i j i2 j2 : Int} (h : cRow V c xs ys i j) (hx : xs.length ≤ 40) (hy : ys.length ≤ 40) (h0 : 0 ≤ i2) (h1 : i2 ≤ xs.length) (h2 : 0 ≤ j2) (h3 : j2 ≤ ys.length) (h4 : i < i2 ∨ (i2 = i ∧ j ≤ j2)) : cAt V c i2 j2 = Dd xs ys i2.toNat j2.toNat := by
  unfold cAt
  rw [if_pos (by omega)]
  have := h i2.toNat j2.toNat (by omega) (by omega) (by omega)
  rw [Int.toNat_of_nonneg h0, Int.toNat_of_nonneg h2] at this
  exact this
set_option maxRecDepth 4000 in
theorem c_fillFrom {i : Int} (ha : gAl K R al) (hra : gRow K R ra 40) (hrb : gRow K R rb 40) (hx : rIs V ra 40 xs) (hy : rIs V rb 40 ys) (ga1 : al + 6 ≤ ra) (gb1 : al + 6 ≤ rb) (h0 : 0 ≤ i) (h1 : i < xs.length) (hc : cIs V (al + 1) xs ys (i + 1)) (hQ : ∀ V', cIs V' (al + 1) xs ys i → gFr V V' (al + 1) (al + 2) → Q none (K, R, V')) : gC l E (d + 2) iX0_fillCostsFrom [ga al, gi i, ga ra, ga rb] (K, R, V) Q := by
  refine gC_of kX0_fillCostsFrom (ls := [some (ga al), some (gi i), some (ga ra), some (ga rb), none, none, none, none, none, none]) rfl (Nat.le_of_ble_eq_true rfl) ?_
  have hxl := hx.2.1
  have hyl := hy.2.1
  have lp : ∀ (jj : Nat) (j : Int) (j8 : Option gV) (j9 : Option gV) (V1 : Int → Int → Int) (bc bs : Nat), j + 1 < (jj : Int) → -1 ≤ j → j < ys.length → cRow V1 (al + 1) xs ys i (j + 1) → gFr V V1 (al + 1) (al + 2) → gX l E (gFm E (d + 2) iX0_fillCostsFrom Q) 47 [some (ga al), some (gi i), some (ga ra), some (ga rb), some (gi (lat xs i)), some (gi (Dd xs ys i.toNat (j + 1).toNat)), some (gi (Dd xs ys (i + 1).toNat (j + 1).toNat)), some (gi j), j8, j9] [] (K, R, V1) bc bs := by
    intro jj
    induction jj with
    | zero =>
      intro j j8 j9 V1 bc bs hj g0 g1 hc1 hf1
      exfalso; omega
    | succ jj ih =>
      intro j j8 j9 V1 bc bs hj g0 g1 hc1 hf1
      refine gX_iload dX0_fillCostsFrom_47 rfl ?_
      refine gX_iflt (tgt := 120) dX0_fillCostsFrom_49 (by decide) (fun h1 => ?_) (fun h1 => ?_)
      · refine gX_vret dX0_fillCostsFrom_120 rfl ?_
        refine hQ _ ?_ hf1
        intro i2 j2 q1 q2 q3
        exact hc1 i2 j2 q2 q3 (by omega)
      · have b1 := Dd_nn xs ys i.toNat (j + 1).toNat
        have b2 := Dd_nn xs ys (i + 1).toNat j.toNat
        have b3 := Dd_nn xs ys (i + 1).toNat (j + 1).toNat
        have b4 := Dd_le xs ys i.toNat (j + 1).toNat
        have b5 := Dd_le xs ys (i + 1).toNat j.toNat
        have b6 := Dd_le xs ys (i + 1).toNat (j + 1).toNat
        have hlx : lat xs i = xs[i.toNat] := by
          have h8 := lat_nat (xs := xs) (j := i.toNat) (by omega)
          rw [Int.toNat_of_nonneg (by omega)] at h8
          exact h8
        have hly : lat ys j = ys[j.toNat] := by
          have h8 := lat_nat (xs := ys) (j := j.toNat) (by omega)
          rw [Int.toNat_of_nonneg (by omega)] at h8
          exact h8
        refine gX_aloadn dX0_fillCostsFrom_52 rfl ?_
        refine gX_iloadn dX0_fillCostsFrom_53 rfl ?_
        refine gX_iconst dX0_fillCostsFrom_54 ⟨by decide, by decide⟩ ?_
        refine gX_iadd dX0_fillCostsFrom_55 ⟨by omega, by omega⟩ ?_
        refine gX_iload dX0_fillCostsFrom_56 rfl ?_
        refine gX_virt (J := iX0_costAt) (av := [gi (i + 1), gi j]) (a := al) (st := []) dX0_fillCostsFrom_58 lkX0_31 kX0_costAt vX0_costAt (gFit_m (by decide)) ha.1 rfl rfl (Nat.le_of_ble_eq_true rfl) (Nat.zero_le _) (Nat.zero_le _) rfl ?_
        refine c_costAt ha ?_
        show gX l E _ 61 [some (ga al), some (gi i), some (ga ra), some (ga rb), some (gi (lat xs i)), some (gi (Dd xs ys i.toNat (j + 1).toNat)), some (gi (Dd xs ys (i + 1).toNat (j + 1).toNat)), some (gi j), j8, j9] [gi (cAt V1 (al + 1) (i + 1) j)] (K, R, V1) _ _
        rw [cRow_at hc1 hxl hyl (by omega) (by omega) (by omega) (by omega) (by omega)]
        refine gX_istore dX0_fillCostsFrom_61 (show (8 : Nat) < 10 from by decide) (ls2 := [some (ga al), some (gi i), some (ga ra), some (ga rb), some (gi (lat xs i)), some (gi (Dd xs ys i.toNat (j + 1).toNat)), some (gi (Dd xs ys (i + 1).toNat (j + 1).toNat)), some (gi j), some (gi (Dd xs ys (i + 1).toNat j.toNat)), j9]) rfl ?_
        refine gX_iload dX0_fillCostsFrom_63 rfl ?_
        refine gX_aloadn dX0_fillCostsFrom_65 rfl ?_
        refine gX_iload dX0_fillCostsFrom_66 rfl ?_
        refine gX_virt (J := iX6_at) (av := [gi j]) (a := rb) (st := [gi (lat xs i)]) dX0_fillCostsFrom_68 lkX0_43 kX6_at vX6_at (gFit_m (by decide)) hrb.1 rfl rfl (Nat.le_of_ble_eq_true rfl) (Nat.zero_le _) (Nat.zero_le _) rfl ?_
        refine q_Row_at hrb (hy.fr hf1 (by omega)) ?_
        show gX l E _ 71 [some (ga al), some (gi i), some (ga ra), some (ga rb), some (gi (lat xs i)), some (gi (Dd xs ys i.toNat (j + 1).toNat)), some (gi (Dd xs ys (i + 1).toNat (j + 1).toNat)), some (gi j), some (gi (Dd xs ys (i + 1).toNat j.toNat)), j9] [gi (lat ys j), gi (lat xs i)] (K, R, V1) _ _
        refine gX_icmpne (tgt := 79) dX0_fillCostsFrom_71 (by decide) (fun h2 => ?_) (fun h2 => ?_)
        · refine gX_iload dX0_fillCostsFrom_79 rfl ?_
          refine gX_iconst dX0_fillCostsFrom_81 ⟨by decide, by decide⟩ ?_
          refine gX_iadd dX0_fillCostsFrom_82 ⟨by omega, by omega⟩ ?_
          refine gX_istore dX0_fillCostsFrom_83 (show (9 : Nat) < 10 from by decide) (ls2 := [some (ga al), some (gi i), some (ga ra), some (ga rb), some (gi (lat xs i)), some (gi (Dd xs ys i.toNat (j + 1).toNat)), some (gi (Dd xs ys (i + 1).toNat (j + 1).toNat)), some (gi j), some (gi (Dd xs ys (i + 1).toNat j.toNat)), some (gi ((Dd xs ys (i + 1).toNat (j + 1).toNat) + 1))]) rfl ?_
          have hv : min ((Dd xs ys (i + 1).toNat (j + 1).toNat) + 1) (min (Dd xs ys (i + 1).toNat j.toNat) (Dd xs ys i.toNat (j + 1).toNat) + 1) = Dd xs ys i.toNat j.toNat := by
            have hs := Dd_step xs ys (i := i.toNat) (j := j.toNat) (by omega) (by omega)
            rw [hs, show (i + 1).toNat = i.toNat + 1 by omega, show (j + 1).toNat = j.toNat + 1 by omega]
            rw [hlx, hly] at h2
            rw [if_neg h2]
          refine gX_iload dX0_fillCostsFrom_85 rfl ?_
          refine gX_iload dX0_fillCostsFrom_87 rfl ?_
          refine gX_iload dX0_fillCostsFrom_89 rfl ?_
          refine gX_mmin dX0_fillCostsFrom_91 lkX0_78 ⟨Nat.le_add_left _ _, Nat.le_add_left _ _⟩ (Nat.le_of_ble_eq_true rfl) ?_
          refine gX_iconst dX0_fillCostsFrom_94 ⟨by decide, by decide⟩ ?_
          refine gX_iadd dX0_fillCostsFrom_95 ⟨by omega, by omega⟩ ?_
          refine gX_mmin dX0_fillCostsFrom_96 lkX0_78 ⟨Nat.le_add_left _ _, Nat.le_add_left _ _⟩ (Nat.le_of_ble_eq_true rfl) ?_
          rw [hv]
          refine gX_istore dX0_fillCostsFrom_99 (show (5 : Nat) < 10 from by decide) (ls2 := [some (ga al), some (gi i), some (ga ra), some (ga rb), some (gi (lat xs i)), some (gi (Dd xs ys i.toNat j.toNat)), some (gi (Dd xs ys (i + 1).toNat (j + 1).toNat)), some (gi j), some (gi (Dd xs ys (i + 1).toNat j.toNat)), some (gi ((Dd xs ys (i + 1).toNat (j + 1).toNat) + 1))]) rfl ?_
          refine gX_aloadn dX0_fillCostsFrom_101 rfl ?_
          refine gX_iloadn dX0_fillCostsFrom_102 rfl ?_
          refine gX_iload dX0_fillCostsFrom_103 rfl ?_
          refine gX_iload dX0_fillCostsFrom_105 rfl ?_
          refine gX_virt (J := iX0_setCost) (av := [gi i, gi j, gi (Dd xs ys i.toNat j.toNat)]) (a := al) (st := []) dX0_fillCostsFrom_107 lkX0_70 kX0_setCost vX0_setCost (gFit_m (by decide)) ha.1 rfl rfl (Nat.le_of_ble_eq_true rfl) (Nat.zero_le _) (Nat.zero_le _) rfl ?_
          refine c_setCost ha (by omega) ?_
          show gX l E _ 110 [some (ga al), some (gi i), some (ga ra), some (ga rb), some (gi (lat xs i)), some (gi (Dd xs ys i.toNat j.toNat)), some (gi (Dd xs ys (i + 1).toNat (j + 1).toNat)), some (gi j), some (gi (Dd xs ys (i + 1).toNat j.toNat)), some (gi ((Dd xs ys (i + 1).toNat (j + 1).toNat) + 1))] [] (K, R, (gup V1 (al + 1) (i * 41 + j) (Dd xs ys i.toNat j.toNat))) _ _
          refine gX_iload dX0_fillCostsFrom_110 rfl ?_
          refine gX_istore dX0_fillCostsFrom_112 (show (6 : Nat) < 10 from by decide) (ls2 := [some (ga al), some (gi i), some (ga ra), some (ga rb), some (gi (lat xs i)), some (gi (Dd xs ys i.toNat j.toNat)), some (gi (Dd xs ys (i + 1).toNat j.toNat)), some (gi j), some (gi (Dd xs ys (i + 1).toNat j.toNat)), some (gi ((Dd xs ys (i + 1).toNat (j + 1).toNat) + 1))]) rfl ?_
          refine gX_iinc dX0_fillCostsFrom_114 rfl (show (7 : Nat) < 10 from by decide) ⟨by omega, by omega⟩ (ls2 := [some (ga al), some (gi i), some (ga ra), some (ga rb), some (gi (lat xs i)), some (gi (Dd xs ys i.toNat j.toNat)), some (gi (Dd xs ys (i + 1).toNat j.toNat)), some (gi (j + (-1))), some (gi (Dd xs ys (i + 1).toNat j.toNat)), some (gi ((Dd xs ys (i + 1).toNat (j + 1).toNat) + 1))]) rfl ?_
          refine gX_goto (tgt := 47) dX0_fillCostsFrom_117 (by decide) ?_
          refine cast (by rw [show (j + (-1) + 1) = j by omega]) (ih (j + (-1)) (some (gi (Dd xs ys (i + 1).toNat j.toNat))) (some (gi ((Dd xs ys (i + 1).toNat (j + 1).toNat) + 1))) _ _ _ (by omega) (by omega) (by omega) (cast (by rw [show (j + (-1) + 1) = j by omega]) (cRow_up hc1 hyl h0 (by omega) (by omega) rfl)) (hf1.trans (gup_fr (by omega) (by omega))))
        · refine gX_iload dX0_fillCostsFrom_74 rfl ?_
          refine gX_goto (tgt := 83) dX0_fillCostsFrom_76 (by decide) ?_
          refine gX_istore dX0_fillCostsFrom_83 (show (9 : Nat) < 10 from by decide) (ls2 := [some (ga al), some (gi i), some (ga ra), some (ga rb), some (gi (lat xs i)), some (gi (Dd xs ys i.toNat (j + 1).toNat)), some (gi (Dd xs ys (i + 1).toNat (j + 1).toNat)), some (gi j), some (gi (Dd xs ys (i + 1).toNat j.toNat)), some (gi (Dd xs ys (i + 1).toNat (j + 1).toNat))]) rfl ?_
          have hv : min (Dd xs ys (i + 1).toNat (j + 1).toNat) (min (Dd xs ys (i + 1).toNat j.toNat) (Dd xs ys i.toNat (j + 1).toNat) + 1) = Dd xs ys i.toNat j.toNat := by
            have hs := Dd_step xs ys (i := i.toNat) (j := j.toNat) (by omega) (by omega)
            rw [hs, show (i + 1).toNat = i.toNat + 1 by omega, show (j + 1).toNat = j.toNat + 1 by omega]
            rw [hlx, hly] at h2
            rw [if_pos h2, Int.add_zero]
          refine gX_iload dX0_fillCostsFrom_85 rfl ?_
          refine gX_iload dX0_fillCostsFrom_87 rfl ?_
          refine gX_iload dX0_fillCostsFrom_89 rfl ?_
          refine gX_mmin dX0_fillCostsFrom_91 lkX0_78 ⟨Nat.le_add_left _ _, Nat.le_add_left _ _⟩ (Nat.le_of_ble_eq_true rfl) ?_
          refine gX_iconst dX0_fillCostsFrom_94 ⟨by decide, by decide⟩ ?_
          refine gX_iadd dX0_fillCostsFrom_95 ⟨by omega, by omega⟩ ?_
          refine gX_mmin dX0_fillCostsFrom_96 lkX0_78 ⟨Nat.le_add_left _ _, Nat.le_add_left _ _⟩ (Nat.le_of_ble_eq_true rfl) ?_
          rw [hv]
          refine gX_istore dX0_fillCostsFrom_99 (show (5 : Nat) < 10 from by decide) (ls2 := [some (ga al), some (gi i), some (ga ra), some (ga rb), some (gi (lat xs i)), some (gi (Dd xs ys i.toNat j.toNat)), some (gi (Dd xs ys (i + 1).toNat (j + 1).toNat)), some (gi j), some (gi (Dd xs ys (i + 1).toNat j.toNat)), some (gi (Dd xs ys (i + 1).toNat (j + 1).toNat))]) rfl ?_
          refine gX_aloadn dX0_fillCostsFrom_101 rfl ?_
          refine gX_iloadn dX0_fillCostsFrom_102 rfl ?_
          refine gX_iload dX0_fillCostsFrom_103 rfl ?_
          refine gX_iload dX0_fillCostsFrom_105 rfl ?_
          refine gX_virt (J := iX0_setCost) (av := [gi i, gi j, gi (Dd xs ys i.toNat j.toNat)]) (a := al) (st := []) dX0_fillCostsFrom_107 lkX0_70 kX0_setCost vX0_setCost (gFit_m (by decide)) ha.1 rfl rfl (Nat.le_of_ble_eq_true rfl) (Nat.zero_le _) (Nat.zero_le _) rfl ?_
          refine c_setCost ha (by omega) ?_
          show gX l E _ 110 [some (ga al), some (gi i), some (ga ra), some (ga rb), some (gi (lat xs i)), some (gi (Dd xs ys i.toNat j.toNat)), some (gi (Dd xs ys (i + 1).toNat (j + 1).toNat)), some (gi j), some (gi (Dd xs ys (i + 1).toNat j.toNat)), some (gi (Dd xs ys (i + 1).toNat (j + 1).toNat))] [] (K, R, (gup V1 (al + 1) (i * 41 + j) (Dd xs ys i.toNat j.toNat))) _ _
          refine gX_iload dX0_fillCostsFrom_110 rfl ?_
          refine gX_istore dX0_fillCostsFrom_112 (show (6 : Nat) < 10 from by decide) (ls2 := [some (ga al), some (gi i), some (ga ra), some (ga rb), some (gi (lat xs i)), some (gi (Dd xs ys i.toNat j.toNat)), some (gi (Dd xs ys (i + 1).toNat j.toNat)), some (gi j), some (gi (Dd xs ys (i + 1).toNat j.toNat)), some (gi (Dd xs ys (i + 1).toNat (j + 1).toNat))]) rfl ?_
          refine gX_iinc dX0_fillCostsFrom_114 rfl (show (7 : Nat) < 10 from by decide) ⟨by omega, by omega⟩ (ls2 := [some (ga al), some (gi i), some (ga ra), some (ga rb), some (gi (lat xs i)), some (gi (Dd xs ys i.toNat j.toNat)), some (gi (Dd xs ys (i + 1).toNat j.toNat)), some (gi (j + (-1))), some (gi (Dd xs ys (i + 1).toNat j.toNat)), some (gi (Dd xs ys (i + 1).toNat (j + 1).toNat))]) rfl ?_
          refine gX_goto (tgt := 47) dX0_fillCostsFrom_117 (by decide) ?_
          refine cast (by rw [show (j + (-1) + 1) = j by omega]) (ih (j + (-1)) (some (gi (Dd xs ys (i + 1).toNat j.toNat))) (some (gi (Dd xs ys (i + 1).toNat (j + 1).toNat))) _ _ _ (by omega) (by omega) (by omega) (cast (by rw [show (j + (-1) + 1) = j by omega]) (cRow_up hc1 hyl h0 (by omega) (by omega) rfl)) (hf1.trans (gup_fr (by omega) (by omega))))
  refine gX_aloadn dX0_fillCostsFrom_0 rfl ?_
  refine gX_iloadn dX0_fillCostsFrom_1 rfl ?_
  refine gX_virt (J := iX6_at) (av := [gi i]) (a := ra) (st := []) dX0_fillCostsFrom_2 lkX0_43 kX6_at vX6_at (gFit_m (by decide)) hra.1 rfl rfl (Nat.le_of_ble_eq_true rfl) (Nat.zero_le _) (Nat.zero_le _) rfl ?_
  refine q_Row_at hra hx ?_
  show gX l E _ 5 [some (ga al), some (gi i), some (ga ra), some (ga rb), none, none, none, none, none, none] [gi (lat xs i)] (K, R, V) _ _
  refine gX_istore dX0_fillCostsFrom_5 (show (4 : Nat) < 10 from by decide) (ls2 := [some (ga al), some (gi i), some (ga ra), some (ga rb), some (gi (lat xs i)), none, none, none, none, none]) rfl ?_
  refine gX_aloadn dX0_fillCostsFrom_7 rfl ?_
  refine gX_virt (J := iX6_length) (av := []) (a := ra) (st := []) dX0_fillCostsFrom_8 lkX0_35 kX6_length vX6_length (gFit_m (by decide)) hra.1 rfl rfl (Nat.le_of_ble_eq_true rfl) (Nat.zero_le _) (Nat.zero_le _) rfl ?_
  refine q_Row_length hra hx ?_
  show gX l E _ 11 [some (ga al), some (gi i), some (ga ra), some (ga rb), some (gi (lat xs i)), none, none, none, none, none] [gi xs.length] (K, R, V) _ _
  refine gX_iloadn dX0_fillCostsFrom_11 rfl ?_
  refine gX_isub dX0_fillCostsFrom_12 ⟨by omega, by omega⟩ ?_
  refine gX_istore dX0_fillCostsFrom_13 (show (5 : Nat) < 10 from by decide) (ls2 := [some (ga al), some (gi i), some (ga ra), some (ga rb), some (gi (lat xs i)), some (gi (xs.length - i)), none, none, none, none]) rfl ?_
  refine gX_aloadn dX0_fillCostsFrom_15 rfl ?_
  refine gX_iloadn dX0_fillCostsFrom_16 rfl ?_
  refine gX_iconst dX0_fillCostsFrom_17 ⟨by decide, by decide⟩ ?_
  refine gX_iadd dX0_fillCostsFrom_18 ⟨by omega, by omega⟩ ?_
  refine gX_aloadn dX0_fillCostsFrom_19 rfl ?_
  refine gX_virt (J := iX6_length) (av := []) (a := rb) (st := [gi (i + 1), ga al]) dX0_fillCostsFrom_20 lkX0_35 kX6_length vX6_length (gFit_m (by decide)) hrb.1 rfl rfl (Nat.le_of_ble_eq_true rfl) (Nat.zero_le _) (Nat.zero_le _) rfl ?_
  refine q_Row_length hrb hy ?_
  show gX l E _ 23 [some (ga al), some (gi i), some (ga ra), some (ga rb), some (gi (lat xs i)), some (gi (xs.length - i)), none, none, none, none] [gi ys.length, gi (i + 1), ga al] (K, R, V) _ _
  refine gX_virt (J := iX0_costAt) (av := [gi (i + 1), gi ys.length]) (a := al) (st := []) dX0_fillCostsFrom_23 lkX0_31 kX0_costAt vX0_costAt (gFit_m (by decide)) ha.1 rfl rfl (Nat.le_of_ble_eq_true rfl) (Nat.zero_le _) (Nat.zero_le _) rfl ?_
  refine c_costAt ha ?_
  show gX l E _ 26 [some (ga al), some (gi i), some (ga ra), some (ga rb), some (gi (lat xs i)), some (gi (xs.length - i)), none, none, none, none] [gi (cAt V (al + 1) (i + 1) ys.length)] (K, R, V) _ _
  refine gX_istore dX0_fillCostsFrom_26 (show (6 : Nat) < 10 from by decide) (ls2 := [some (ga al), some (gi i), some (ga ra), some (ga rb), some (gi (lat xs i)), some (gi (xs.length - i)), some (gi (cAt V (al + 1) (i + 1) ys.length)), none, none, none]) rfl ?_
  refine gX_aloadn dX0_fillCostsFrom_28 rfl ?_
  refine gX_iloadn dX0_fillCostsFrom_29 rfl ?_
  refine gX_aloadn dX0_fillCostsFrom_30 rfl ?_
  refine gX_virt (J := iX6_length) (av := []) (a := rb) (st := [gi i, ga al]) dX0_fillCostsFrom_31 lkX0_35 kX6_length vX6_length (gFit_m (by decide)) hrb.1 rfl rfl (Nat.le_of_ble_eq_true rfl) (Nat.zero_le _) (Nat.zero_le _) rfl ?_
  refine q_Row_length hrb hy ?_
  show gX l E _ 34 [some (ga al), some (gi i), some (ga ra), some (ga rb), some (gi (lat xs i)), some (gi (xs.length - i)), some (gi (cAt V (al + 1) (i + 1) ys.length)), none, none, none] [gi ys.length, gi i, ga al] (K, R, V) _ _
  refine gX_iload dX0_fillCostsFrom_34 rfl ?_
  refine gX_virt (J := iX0_setCost) (av := [gi i, gi ys.length, gi (xs.length - i)]) (a := al) (st := []) dX0_fillCostsFrom_36 lkX0_70 kX0_setCost vX0_setCost (gFit_m (by decide)) ha.1 rfl rfl (Nat.le_of_ble_eq_true rfl) (Nat.zero_le _) (Nat.zero_le _) rfl ?_
  refine c_setCost ha (by omega) ?_
  show gX l E _ 39 [some (ga al), some (gi i), some (ga ra), some (ga rb), some (gi (lat xs i)), some (gi (xs.length - i)), some (gi (cAt V (al + 1) (i + 1) ys.length)), none, none, none] [] (K, R, (gup V (al + 1) (i * 41 + ys.length) (xs.length - i))) _ _
  refine gX_aloadn dX0_fillCostsFrom_39 rfl ?_
  refine gX_virt (J := iX6_length) (av := []) (a := rb) (st := []) dX0_fillCostsFrom_40 lkX0_35 kX6_length vX6_length (gFit_m (by decide)) hrb.1 rfl rfl (Nat.le_of_ble_eq_true rfl) (Nat.zero_le _) (Nat.zero_le _) rfl ?_
  refine q_Row_length hrb (hy.fr (gup_fr (a := al + 1) (lo := al + 1) (hi := al + 2) (by omega) (by omega)) (by omega)) ?_
  show gX l E _ 43 [some (ga al), some (gi i), some (ga ra), some (ga rb), some (gi (lat xs i)), some (gi (xs.length - i)), some (gi (cAt V (al + 1) (i + 1) ys.length)), none, none, none] [gi ys.length] (K, R, (gup V (al + 1) (i * 41 + ys.length) (xs.length - i))) _ _
  refine gX_iconst dX0_fillCostsFrom_43 ⟨by decide, by decide⟩ ?_
  refine gX_isub dX0_fillCostsFrom_44 ⟨by omega, by omega⟩ ?_
  refine gX_istore dX0_fillCostsFrom_45 (show (7 : Nat) < 10 from by decide) (ls2 := [some (ga al), some (gi i), some (ga ra), some (ga rb), some (gi (lat xs i)), some (gi (xs.length - i)), some (gi (cAt V (al + 1) (i + 1) ys.length)), some (gi (ys.length - 1)), none, none]) rfl ?_
  have e1 : cAt V (al + 1) (i + 1) ys.length = Dd xs ys (i + 1).toNat (((ys.length : Int) - 1) + 1).toNat := by
    rw [cAt_is hc hxl hyl (by omega) (by omega) (by omega) (by omega) (by omega)]
    congr 1
    omega
  have e2 : (xs.length : Int) - i = Dd xs ys i.toNat (((ys.length : Int) - 1) + 1).toNat := by
    rw [Dd_right xs ys (by omega) (by omega)]
    omega
  rw [e1, e2]
  refine lp (ys.length + 1) (ys.length - 1) none none _ _ _ (by omega) (by omega) (by omega) ?_ (gup_fr (by omega) (by omega))
  rw [show (ys.length : Int) - 1 + 1 = ys.length by omega]
  refine cRow_up ?_ hyl h0 (by omega) (by omega) rfl
  intro i2 j2 q1 q2 q3
  exact hc i2 j2 (by omega) q1 q2
set_option maxRecDepth 4000 in
theorem c_fillCosts (ha : gAl K R al) (hra : gRow K R ra 40) (hrb : gRow K R rb 40) (hx : rIs V ra 40 xs) (hy : rIs V rb 40 ys) (ga1 : al + 6 ≤ ra) (gb1 : al + 6 ≤ rb) (hQ : ∀ V', cIs V' (al + 1) xs ys 0 → gFr V V' (al + 1) (al + 2) → Q none (K, R, V')) : gC l E (d + 3) iX0_fillCosts [ga al, ga ra, ga rb] (K, R, V) Q := by
  refine gC_of kX0_fillCosts (ls := [some (ga al), some (ga ra), some (ga rb), none]) rfl (Nat.le_of_ble_eq_true rfl) ?_
  have hxl := hx.2.1
  have hyl := hy.2.1
  have lp2 : ∀ (jj : Nat) (j : Int) (V1 : Int → Int → Int) (bc bs : Nat), j + 1 < (jj : Int) → -1 ≤ j → j < xs.length → cIs V1 (al + 1) xs ys (j + 1) → gFr V V1 (al + 1) (al + 2) → gX l E (gFm E (d + 3) iX0_fillCosts Q) 38 [some (ga al), some (ga ra), some (ga rb), some (gi j)] [] (K, R, V1) bc bs := by
    intro jj
    induction jj with
    | zero =>
      intro j V1 bc bs hj g0 g1 hc1 hf1
      exfalso; omega
    | succ jj ih =>
      intro j V1 bc bs hj g0 g1 hc1 hf1
      refine gX_iloadn dX0_fillCosts_38 rfl ?_
      refine gX_iflt (tgt := 55) dX0_fillCosts_39 (by decide) (fun h1 => ?_) (fun h1 => ?_)
      · refine gX_vret dX0_fillCosts_55 rfl ?_
        refine hQ _ (fun i2 j2 q1 q2 q3 => ?_) hf1
        exact hc1 i2 j2 (by omega) q2 q3
      · refine gX_aloadn dX0_fillCosts_42 rfl ?_
        refine gX_iloadn dX0_fillCosts_43 rfl ?_
        refine gX_aloadn dX0_fillCosts_44 rfl ?_
        refine gX_aloadn dX0_fillCosts_45 rfl ?_
        refine gX_virt (J := iX0_fillCostsFrom) (av := [gi j, ga ra, ga rb]) (a := al) (st := []) dX0_fillCosts_46 lkX0_74 kX0_fillCostsFrom vX0_fillCostsFrom (gFit_m (by decide)) ha.1 rfl rfl (Nat.le_of_ble_eq_true rfl) (Nat.zero_le _) (Nat.zero_le _) rfl ?_
        refine c_fillFrom ha hra hrb (hx.fr hf1 (by omega)) (hy.fr hf1 (by omega)) ga1 gb1 (by omega) (by omega) hc1 (fun V2 hc2 hf2 => ?_)
        show gX l E _ 49 [some (ga al), some (ga ra), some (ga rb), some (gi j)] [] (K, R, V2) _ _
        refine gX_iinc dX0_fillCosts_49 rfl (show (3 : Nat) < 4 from by decide) ⟨by omega, by omega⟩ (ls2 := [some (ga al), some (ga ra), some (ga rb), some (gi (j + (-1)))]) rfl ?_
        refine gX_goto (tgt := 38) dX0_fillCosts_52 (by decide) ?_
        refine ih (j + (-1)) V2 _ _ (by omega) (by omega) (by omega) ?_ (hf1.trans hf2)
        rw [show j + (-1) + 1 = j by omega]
        exact hc2
  have lp1 : ∀ (jj : Nat) (j : Int) (V1 : Int → Int → Int) (bc bs : Nat), ys.length + 1 - j < (jj : Int) → 0 ≤ j → j ≤ ys.length + 1 → (∀ j2 : Nat, (j2 : Int) < j → j2 ≤ ys.length → V1 (al + 1) ((xs.length : Int) * 41 + j2) = Dd xs ys xs.length j2) → gFr V V1 (al + 1) (al + 2) → gX l E (gFm E (d + 3) iX0_fillCosts Q) 2 [some (ga al), some (ga ra), some (ga rb), some (gi j)] [] (K, R, V1) bc bs := by
    intro jj
    induction jj with
    | zero =>
      intro j V1 bc bs hj g0 g1 ht hf1
      exfalso; omega
    | succ jj ih =>
      intro j V1 bc bs hj g0 g1 ht hf1
      refine gX_iloadn dX0_fillCosts_2 rfl ?_
      refine gX_aloadn dX0_fillCosts_3 rfl ?_
      refine gX_virt (J := iX6_length) (av := []) (a := rb) (st := [gi j]) dX0_fillCosts_4 lkX0_35 kX6_length vX6_length (gFit_m (by decide)) hrb.1 rfl rfl (Nat.le_of_ble_eq_true rfl) (Nat.zero_le _) (Nat.zero_le _) rfl ?_
      refine q_Row_length hrb (hy.fr hf1 (by omega)) ?_
      show gX l E _ 7 [some (ga al), some (ga ra), some (ga rb), some (gi j)] [gi ys.length, gi j] (K, R, V1) _ _
      refine gX_icmpgt (tgt := 31) dX0_fillCosts_7 (by decide) (fun h1 => ?_) (fun h1 => ?_)
      · refine gX_aloadn dX0_fillCosts_31 rfl ?_
        refine gX_virt (J := iX6_length) (av := []) (a := ra) (st := []) dX0_fillCosts_32 lkX0_35 kX6_length vX6_length (gFit_m (by decide)) hra.1 rfl rfl (Nat.le_of_ble_eq_true rfl) (Nat.zero_le _) (Nat.zero_le _) rfl ?_
        refine q_Row_length hra (hx.fr hf1 (by omega)) ?_
        show gX l E _ 35 [some (ga al), some (ga ra), some (ga rb), some (gi j)] [gi xs.length] (K, R, V1) _ _
        refine gX_iconst dX0_fillCosts_35 ⟨by decide, by decide⟩ ?_
        refine gX_isub dX0_fillCosts_36 ⟨by omega, by omega⟩ ?_
        refine gX_istoren dX0_fillCosts_37 (show (3 : Nat) < 4 from by decide) (ls2 := [some (ga al), some (ga ra), some (ga rb), some (gi (xs.length - 1))]) rfl ?_
        refine lp2 (xs.length + 1) (xs.length - 1) V1 _ _ (by omega) (by omega) (by omega) (fun i2 j2 q1 q2 q3 => ?_) hf1
        have ei : i2 = xs.length := by omega
        subst ei
        exact ht j2 (by omega) q3
      · refine gX_aloadn dX0_fillCosts_10 rfl ?_
        refine gX_aloadn dX0_fillCosts_11 rfl ?_
        refine gX_virt (J := iX6_length) (av := []) (a := ra) (st := [ga al]) dX0_fillCosts_12 lkX0_35 kX6_length vX6_length (gFit_m (by decide)) hra.1 rfl rfl (Nat.le_of_ble_eq_true rfl) (Nat.zero_le _) (Nat.zero_le _) rfl ?_
        refine q_Row_length hra (hx.fr hf1 (by omega)) ?_
        show gX l E _ 15 [some (ga al), some (ga ra), some (ga rb), some (gi j)] [gi xs.length, ga al] (K, R, V1) _ _
        refine gX_iloadn dX0_fillCosts_15 rfl ?_
        refine gX_aloadn dX0_fillCosts_16 rfl ?_
        refine gX_virt (J := iX6_length) (av := []) (a := rb) (st := [gi j, gi xs.length, ga al]) dX0_fillCosts_17 lkX0_35 kX6_length vX6_length (gFit_m (by decide)) hrb.1 rfl rfl (Nat.le_of_ble_eq_true rfl) (Nat.zero_le _) (Nat.zero_le _) rfl ?_
        refine q_Row_length hrb (hy.fr hf1 (by omega)) ?_
        show gX l E _ 20 [some (ga al), some (ga ra), some (ga rb), some (gi j)] [gi ys.length, gi j, gi xs.length, ga al] (K, R, V1) _ _
        refine gX_iloadn dX0_fillCosts_20 rfl ?_
        refine gX_isub dX0_fillCosts_21 ⟨by omega, by omega⟩ ?_
        refine gX_virt (J := iX0_setCost) (av := [gi xs.length, gi j, gi (ys.length - j)]) (a := al) (st := []) dX0_fillCosts_22 lkX0_70 kX0_setCost vX0_setCost (gFit_m (by decide)) ha.1 rfl rfl (Nat.le_of_ble_eq_true rfl) (Nat.zero_le _) (Nat.zero_le _) rfl ?_
        refine c_setCost ha (by omega) ?_
        show gX l E _ 25 [some (ga al), some (ga ra), some (ga rb), some (gi j)] [] (K, R, (gup V1 (al + 1) (xs.length * 41 + j) (ys.length - j))) _ _
        refine gX_iinc dX0_fillCosts_25 rfl (show (3 : Nat) < 4 from by decide) ⟨by omega, by omega⟩ (ls2 := [some (ga al), some (ga ra), some (ga rb), some (gi (j + 1))]) rfl ?_
        refine gX_goto (tgt := 2) dX0_fillCosts_28 (by decide) ?_
        refine ih (j + 1) _ _ _ (by omega) (by omega) (by omega) (fun j2 q1 q2 => ?_) (hf1.trans (gup_fr (by omega) (by omega)))
        by_cases c : (j2 : Int) = j
        · rw [c, gup_s, Dd_top xs ys (Nat.le_refl _) q2]
          omega
        · rw [gup_o (Or.inr (by omega))]
          exact ht j2 (by omega) q2
  refine gX_iconst dX0_fillCosts_0 ⟨by decide, by decide⟩ ?_
  refine gX_istoren dX0_fillCosts_1 (show (3 : Nat) < 4 from by decide) (ls2 := [some (ga al), some (ga ra), some (ga rb), some (gi 0)]) rfl ?_
  exact lp1 (ys.length + 2) 0 V _ _ (by omega) (by omega) (by omega) (fun j2 q1 q2 => by omega) gFr.rf
set_option maxRecDepth 4000 in
theorem c_leastCost (ha : gAl K R al) (hra : gRow K R ra 40) (hrb : gRow K R rb 40) (hx : rIs V ra 40 xs) (hy : rIs V rb 40 ys) (ga1 : al + 6 ≤ ra) (gb1 : al + 6 ≤ rb) (hQ : ∀ V', gFr V V' (al + 1) (al + 2) → Q (some (gi (ed xs ys))) (K, R, V')) : gC l E (d + 4) iX0_leastCost [ga al, ga ra, ga rb] (K, R, V) Q := by
  refine gC_of kX0_leastCost (ls := [some (ga al), some (ga ra), some (ga rb)]) rfl (Nat.le_of_ble_eq_true rfl) ?_
  have hxl := hx.2.1
  have hyl := hy.2.1
  refine gX_aloadn dX0_leastCost_0 rfl ?_
  refine gX_aloadn dX0_leastCost_1 rfl ?_
  refine gX_aloadn dX0_leastCost_2 rfl ?_
  refine gX_virt (J := iX0_fillCosts) (av := [ga ra, ga rb]) (a := al) (st := []) dX0_leastCost_3 lkX0_27 kX0_fillCosts vX0_fillCosts (gFit_m (by decide)) ha.1 rfl rfl (Nat.le_of_ble_eq_true rfl) (Nat.zero_le _) (Nat.zero_le _) rfl ?_
  refine c_fillCosts ha hra hrb hx hy ga1 gb1 (fun V1 hc1 hf1 => ?_)
  show gX l E _ 6 [some (ga al), some (ga ra), some (ga rb)] [] (K, R, V1) _ _
  refine gX_aloadn dX0_leastCost_6 rfl ?_
  refine gX_iconst dX0_leastCost_7 ⟨by decide, by decide⟩ ?_
  refine gX_iconst dX0_leastCost_8 ⟨by decide, by decide⟩ ?_
  refine gX_virt (J := iX0_costAt) (av := [gi 0, gi 0]) (a := al) (st := []) dX0_leastCost_9 lkX0_31 kX0_costAt vX0_costAt (gFit_m (by decide)) ha.1 rfl rfl (Nat.le_of_ble_eq_true rfl) (Nat.zero_le _) (Nat.zero_le _) rfl ?_
  refine c_costAt ha ?_
  show gX l E _ 12 [some (ga al), some (ga ra), some (ga rb)] [gi (cAt V1 (al + 1) 0 0)] (K, R, V1) _ _
  refine gX_iret dX0_leastCost_12 (Or.inl rfl) ?_
  rw [cAt_is hc1 hxl hyl (by omega) (by omega) (by omega) (by omega) (by omega)]
  exact hQ _ hf1
/-- which places of the second text are beside one of the first -/
def srcIs (S : List Int) (n : Nat) (pt : List Int) : Prop := S.length = n ∧ ∀ q : Nat, q < n → (lat S q = -1 ↔ (q : Int) ∉ pt)
theorem lat_lput {S : List Int} {i x : Int} {q : Nat} (h0 : 0 ≤ i) (h1 : i < S.length) (hq : q < S.length) : lat (lput S i x) q = if (q : Int) = i then x else lat S q := by
  have hg : (lput S i x)[q]? = some ((lput S i x)[q]'(by rw [lput_len]; exact hq)) := List.getElem?_eq_getElem _
  by_cases c : (q : Int) = i
  · rw [if_pos c]
    refine lat_of ?_
    rw [lput_at h0 h1, if_pos c]
  · rw [if_neg c]
    refine lat_of ?_
    rw [lput_at h0 h1, if_neg c, List.getElem?_eq_getElem hq]
    rw [lat_nat hq]
theorem lput_app {pre : List Int} {k : Nat} {x : Int} : lput (pre ++ List.replicate (k + 1) (-1)) (pre.length : Int) x = pre ++ [x] ++ List.replicate k (-1) := by
  rw [lput_nat, List.set_append_right _ _ (Nat.le_refl _), Nat.sub_self, List.replicate_succ, List.set_cons_zero, List.append_assoc]
  rfl
set_option maxRecDepth 4000 in
theorem c_lay (ha : gAl K R al) (hra : gRow K R ra 40) (hrb : gRow K R rb 40) (hx : rIs V ra 40 xs) (hy : rIs V rb 40 ys) (ga1 : al + 6 ≤ ra) (gb1 : al + 6 ≤ rb) (hQ : ∀ V' S, rIs V' (al + 2) 40 (alg xs ys 0) → rIs V' (al + 4) 40 S → srcIs S ys.length (alg xs ys 0) → gFr V V' (al + 1) (al + 6) → Q none (K, R, V')) : gC l E (d + 4) iX0_lay [ga al, ga ra, ga rb] (K, R, V) Q := by
  refine gC_of kX0_lay (ls := [some (ga al), some (ga ra), some (ga rb), none, none, none, none, none]) rfl (Nat.le_of_ble_eq_true rfl) ?_
  have hxl := hx.2.1
  have hyl := hy.2.1
  have lp : ∀ (jj : Nat) (i : Int) (j : Int) (stp : Int) (j6 : Option gV) (j7 : Option gV) (V1 : Int → Int → Int) (pre : List Int) (S : List Int) (bc bs : Nat), xs.length + ys.length - i - j < (jj : Int) → 0 ≤ i → i ≤ xs.length → 0 ≤ j → j ≤ ys.length → 0 ≤ stp → stp ≤ i + j → cIs V1 (al + 1) xs ys 0 → gFr V V1 (al + 1) (al + 6) → pre.length = i.toNat → alg xs ys 0 = pre ++ alg (xs.drop i.toNat) (ys.drop j.toNat) j → rIs V1 (al + 2) 40 (pre ++ List.replicate (xs.length - i.toNat) (-1)) → rIs V1 (al + 4) 40 S → srcIs S ys.length pre → (∀ v ∈ pre, v < j) → gX l E (gFm E (d + 4) iX0_lay Q) 38 [some (ga al), some (ga ra), some (ga rb), some (gi i), some (gi j), some (gi stp), j6, j7] [] (K, R, V1) bc bs := by
    intro jj
    induction jj with
    | zero =>
      intro i j stp j6 j7 V1 pre S bc bs hj g0 g1 g2 g3 g4 g5 hc1 hf1 q1 q2 q3 q4 q5 q6
      exfalso; omega
    | succ jj ih =>
      intro i j stp j6 j7 V1 pre S bc bs hj g0 g1 g2 g3 g4 g5 hc1 hf1 q1 q2 q3 q4 q5 q6
      refine gX_iload dX0_lay_38 rfl ?_
      refine gX_bipush dX0_lay_40 (by decide) ⟨by decide, by decide⟩ ?_
      refine gX_icmpge (tgt := 171) dX0_lay_42 (by decide) (fun h1 => ?_) (fun h1 => ?_)
      · refine gX_vret dX0_lay_171 rfl ?_
        have ei : i.toNat = xs.length := by omega
        rw [ei, List.drop_length, alg_nil, List.append_nil] at q2
        rw [ei, Nat.sub_self, List.replicate_zero, List.append_nil] at q3
        rw [← q2] at q3 q5
        exact hQ _ S q3 q4 q5 hf1
      · refine gX_iloadn dX0_lay_45 rfl ?_
        refine gX_aloadn dX0_lay_46 rfl ?_
        refine gX_virt (J := iX6_length) (av := []) (a := ra) (st := [gi i]) dX0_lay_47 lkX0_35 kX6_length vX6_length (gFit_m (by decide)) hra.1 rfl rfl (Nat.le_of_ble_eq_true rfl) (Nat.zero_le _) (Nat.zero_le _) rfl ?_
        refine q_Row_length hra (hx.fr hf1 (by omega)) ?_
        show gX l E _ 50 [some (ga al), some (ga ra), some (ga rb), some (gi i), some (gi j), some (gi stp), j6, j7] [gi xs.length, gi i] (K, R, V1) _ _
        refine gX_icmpge (tgt := 171) dX0_lay_50 (by decide) (fun h2 => ?_) (fun h2 => ?_)
        · refine gX_vret dX0_lay_171 rfl ?_
          have ei : i.toNat = xs.length := by omega
          rw [ei, List.drop_length, alg_nil, List.append_nil] at q2
          rw [ei, Nat.sub_self, List.replicate_zero, List.append_nil] at q3
          rw [← q2] at q3 q5
          exact hQ _ S q3 q4 q5 hf1
        · refine gX_aloadn dX0_lay_53 rfl ?_
          refine gX_iloadn dX0_lay_54 rfl ?_
          refine gX_iload dX0_lay_55 rfl ?_
          refine gX_virt (J := iX0_costAt) (av := [gi i, gi j]) (a := al) (st := []) dX0_lay_57 lkX0_31 kX0_costAt vX0_costAt (gFit_m (by decide)) ha.1 rfl rfl (Nat.le_of_ble_eq_true rfl) (Nat.zero_le _) (Nat.zero_le _) rfl ?_
          refine c_costAt ha ?_
          show gX l E _ 60 [some (ga al), some (ga ra), some (ga rb), some (gi i), some (gi j), some (gi stp), j6, j7] [gi (cAt V1 (al + 1) i j)] (K, R, V1) _ _
          rw [cAt_is hc1 hxl hyl (by omega) (by omega) (by omega) (by omega) (by omega)]
          have hlx : lat xs i = xs[i.toNat] := by
            have h8 := lat_nat (xs := xs) (j := i.toNat) (by omega)
            rw [Int.toNat_of_nonneg (by omega)] at h8
            exact h8
          have y1 := Dd_nn xs ys (i + 1).toNat j.toNat
          have y2 := Dd_le xs ys (i + 1).toNat j.toNat
          refine gX_istore dX0_lay_60 (show (6 : Nat) < 8 from by decide) (ls2 := [some (ga al), some (ga ra), some (ga rb), some (gi i), some (gi j), some (gi stp), some (gi (Dd xs ys i.toNat j.toNat)), j7]) rfl ?_
          refine gX_aloadn dX0_lay_62 rfl ?_
          refine gX_iloadn dX0_lay_63 rfl ?_
          refine gX_virt (J := iX6_at) (av := [gi i]) (a := ra) (st := []) dX0_lay_64 lkX0_43 kX6_at vX6_at (gFit_m (by decide)) hra.1 rfl rfl (Nat.le_of_ble_eq_true rfl) (Nat.zero_le _) (Nat.zero_le _) rfl ?_
          refine q_Row_at hra (hx.fr hf1 (by omega)) ?_
          show gX l E _ 67 [some (ga al), some (ga ra), some (ga rb), some (gi i), some (gi j), some (gi stp), some (gi (Dd xs ys i.toNat j.toNat)), j7] [gi (lat xs i)] (K, R, V1) _ _
          refine gX_aloadn dX0_lay_67 rfl ?_
          refine gX_iload dX0_lay_68 rfl ?_
          refine gX_virt (J := iX6_at) (av := [gi j]) (a := rb) (st := [gi (lat xs i)]) dX0_lay_70 lkX0_43 kX6_at vX6_at (gFit_m (by decide)) hrb.1 rfl rfl (Nat.le_of_ble_eq_true rfl) (Nat.zero_le _) (Nat.zero_le _) rfl ?_
          refine q_Row_at hrb (hy.fr hf1 (by omega)) ?_
          show gX l E _ 73 [some (ga al), some (ga ra), some (ga rb), some (gi i), some (gi j), some (gi stp), some (gi (Dd xs ys i.toNat j.toNat)), j7] [gi (lat ys j), gi (lat xs i)] (K, R, V1) _ _
          refine gX_icmpne (tgt := 80) dX0_lay_73 (by decide) (fun h3 => ?_) (fun h3 => ?_)
          · refine gX_iconst dX0_lay_80 ⟨by decide, by decide⟩ ?_
            refine gX_istore dX0_lay_81 (show (7 : Nat) < 8 from by decide) (ls2 := [some (ga al), some (ga ra), some (ga rb), some (gi i), some (gi j), some (gi stp), some (gi (Dd xs ys i.toNat j.toNat)), some (gi 1)]) rfl ?_
            by_cases hjl : j < ys.length
            · have hly : lat ys j = ys[j.toNat] := by
                have h8 := lat_nat (xs := ys) (j := j.toNat) (by omega)
                rw [Int.toNat_of_nonneg (by omega)] at h8
                exact h8
              have hst := alg_drop (xs := xs) (ys := ys) (i := i.toNat) (j := j.toNat) (by omega) (by omega) j
              rw [hlx, hly] at h3
              rw [if_neg h3] at hst
              have b1 := Dd_nn xs ys i.toNat j.toNat
              have b2 := Dd_nn xs ys (i + 1).toNat j.toNat
              have b3 := Dd_nn xs ys (i + 1).toNat (j + 1).toNat
              have b5 := Dd_le xs ys (i + 1).toNat j.toNat
              have b6 := Dd_le xs ys (i + 1).toNat (j + 1).toNat
              have z1 : i.toNat + 1 = (i + 1).toNat := by omega
              have z2 : j.toNat + 1 = (j + 1).toNat := by omega
              rw [z1, z2] at hst
              refine gX_aloadn dX0_lay_83 rfl ?_
              refine gX_iload dX0_lay_84 rfl ?_
              refine gX_virt (J := iX6_has) (av := [gi j]) (a := rb) (st := []) dX0_lay_86 lkX0_47 kX6_has vX6_has (gFit_m (by decide)) hrb.1 rfl rfl (Nat.le_of_ble_eq_true rfl) (Nat.zero_le _) (Nat.zero_le _) rfl ?_
              refine q_Row_has hrb (hy.fr hf1 (by omega)) ?_
              show gX l E _ 89 [some (ga al), some (ga ra), some (ga rb), some (gi i), some (gi j), some (gi stp), some (gi (Dd xs ys i.toNat j.toNat)), some (gi 1)] [gi (lhas ys j)] (K, R, V1) _ _
              have eh : lhas ys j = 1 := by unfold lhas; rw [if_pos (by omega)]
              rw [eh]
              refine gX_ifeq (tgt := 140) dX0_lay_89 (by decide) (fun k1 => by exfalso; omega) (fun k1 => ?_)
              refine gX_iload dX0_lay_92 rfl ?_
              refine gX_aloadn dX0_lay_94 rfl ?_
              refine gX_iloadn dX0_lay_95 rfl ?_
              refine gX_iconst dX0_lay_96 ⟨by decide, by decide⟩ ?_
              refine gX_iadd dX0_lay_97 ⟨by omega, by omega⟩ ?_
              refine gX_iload dX0_lay_98 rfl ?_
              refine gX_iconst dX0_lay_100 ⟨by decide, by decide⟩ ?_
              refine gX_iadd dX0_lay_101 ⟨by omega, by omega⟩ ?_
              refine gX_virt (J := iX0_costAt) (av := [gi (i + 1), gi (j + 1)]) (a := al) (st := [gi (Dd xs ys i.toNat j.toNat)]) dX0_lay_102 lkX0_31 kX0_costAt vX0_costAt (gFit_m (by decide)) ha.1 rfl rfl (Nat.le_of_ble_eq_true rfl) (Nat.zero_le _) (Nat.zero_le _) rfl ?_
              refine c_costAt ha ?_
              show gX l E _ 105 [some (ga al), some (ga ra), some (ga rb), some (gi i), some (gi j), some (gi stp), some (gi (Dd xs ys i.toNat j.toNat)), some (gi 1)] [gi (cAt V1 (al + 1) (i + 1) (j + 1)), gi (Dd xs ys i.toNat j.toNat)] (K, R, V1) _ _
              rw [cAt_is hc1 hxl hyl (by omega) (by omega) (by omega) (by omega) (by omega)]
              refine gX_iload dX0_lay_105 rfl ?_
              refine gX_iadd dX0_lay_107 ⟨by omega, by omega⟩ ?_
              refine gX_icmpne (tgt := 140) dX0_lay_108 (by decide) (fun k2 => ?_) (fun k2 => ?_)
              · refine gX_iload dX0_lay_140 rfl ?_
                refine gX_aloadn dX0_lay_142 rfl ?_
                refine gX_iloadn dX0_lay_143 rfl ?_
                refine gX_iconst dX0_lay_144 ⟨by decide, by decide⟩ ?_
                refine gX_iadd dX0_lay_145 ⟨by omega, by omega⟩ ?_
                refine gX_iload dX0_lay_146 rfl ?_
                refine gX_virt (J := iX0_costAt) (av := [gi (i + 1), gi j]) (a := al) (st := [gi (Dd xs ys i.toNat j.toNat)]) dX0_lay_148 lkX0_31 kX0_costAt vX0_costAt (gFit_m (by decide)) ha.1 rfl rfl (Nat.le_of_ble_eq_true rfl) (Nat.zero_le _) (Nat.zero_le _) rfl ?_
                refine c_costAt ha ?_
                show gX l E _ 151 [some (ga al), some (ga ra), some (ga rb), some (gi i), some (gi j), some (gi stp), some (gi (Dd xs ys i.toNat j.toNat)), some (gi 1)] [gi (cAt V1 (al + 1) (i + 1) j), gi (Dd xs ys i.toNat j.toNat)] (K, R, V1) _ _
                rw [cAt_is hc1 hxl hyl (by omega) (by omega) (by omega) (by omega) (by omega)]
                refine gX_iconst dX0_lay_151 ⟨by decide, by decide⟩ ?_
                refine gX_iadd dX0_lay_152 ⟨by omega, by omega⟩ ?_
                refine gX_icmpne (tgt := 162) dX0_lay_153 (by decide) (fun k3 => ?_) (fun k3 => ?_)
                · refine gX_iinc dX0_lay_162 rfl (show (4 : Nat) < 8 from by decide) ⟨by omega, by omega⟩ (ls2 := [some (ga al), some (ga ra), some (ga rb), some (gi i), some (gi (j + 1)), some (gi stp), some (gi (Dd xs ys i.toNat j.toNat)), some (gi 1)]) rfl ?_
                  refine gX_iinc dX0_lay_165 rfl (show (5 : Nat) < 8 from by decide) ⟨by omega, by omega⟩ (ls2 := [some (ga al), some (ga ra), some (ga rb), some (gi i), some (gi (j + 1)), some (gi (stp + 1)), some (gi (Dd xs ys i.toNat j.toNat)), some (gi 1)]) rfl ?_
                  refine gX_goto (tgt := 38) dX0_lay_168 (by decide) ?_
                  rw [if_neg (by omega), if_neg (by omega)] at hst
                  rw [hst] at q2
                  exact ih i (j + 1) (stp + 1) (some (gi (Dd xs ys i.toNat j.toNat))) (some (gi 1)) V1 pre S _ _ (by omega) (by omega) (by omega) (by omega) (by omega) (by omega) (by omega) hc1 hf1 q1 q2 q3 q4 q5 (fun v hv => by have := q6 v hv; omega)
                · refine gX_iinc dX0_lay_156 rfl (show (3 : Nat) < 8 from by decide) ⟨by omega, by omega⟩ (ls2 := [some (ga al), some (ga ra), some (ga rb), some (gi (i + 1)), some (gi j), some (gi stp), some (gi (Dd xs ys i.toNat j.toNat)), some (gi 1)]) rfl ?_
                  refine gX_goto (tgt := 165) dX0_lay_159 (by decide) ?_
                  refine gX_iinc dX0_lay_165 rfl (show (5 : Nat) < 8 from by decide) ⟨by omega, by omega⟩ (ls2 := [some (ga al), some (ga ra), some (ga rb), some (gi (i + 1)), some (gi j), some (gi (stp + 1)), some (gi (Dd xs ys i.toNat j.toNat)), some (gi 1)]) rfl ?_
                  refine gX_goto (tgt := 38) dX0_lay_168 (by decide) ?_
                  rw [if_neg (by omega), if_pos (by omega)] at hst
                  rw [hst] at q2
                  refine ih (i + 1) j (stp + 1) (some (gi (Dd xs ys i.toNat j.toNat))) (some (gi 1)) V1 (pre ++ [-1]) S _ _ (by omega) (by omega) (by omega) (by omega) (by omega) (by omega) (by omega) hc1 hf1 (by rw [List.length_append, q1]; simp; omega) (by rw [q2, List.append_assoc]; rfl) ?_ q4 ?_ ?_
                  · have e9 : xs.length - i.toNat = (xs.length - (i + 1).toNat) + 1 := by omega
                    rw [e9, List.replicate_succ] at q3
                    rw [List.append_assoc]
                    exact q3
                  · refine ⟨q5.1, fun q hq => ?_⟩
                    rw [q5.2 q hq]
                    constructor
                    · intro z z2; exact (List.mem_append.mp z2).elim z (fun z3 => by have := List.mem_singleton.mp z3; omega)
                    · intro z z2; exact z (List.mem_append_left _ z2)
                  · intro v hv
                    rcases List.mem_append.mp hv with hv | hv
                    · exact q6 v hv
                    · rw [List.mem_singleton.mp hv]; omega
              · refine gX_aloadn dX0_lay_111 rfl ?_
                refine gX_gR 1 dX0_lay_112 fdX0_20 rfl rfl ha.1 ha.2.2.2.1 ?_
                refine gX_iloadn dX0_lay_115 rfl ?_
                refine gX_iload dX0_lay_116 rfl ?_
                refine gX_virt (J := iX6_put) (av := [gi i, gi j]) (a := (al + 2)) (st := []) dX0_lay_118 lkX0_51 kX6_put vX6_put (gFit_m (by decide)) ha.2.2.2.2.2.1.1 rfl rfl (Nat.le_of_ble_eq_true rfl) (Nat.zero_le _) (Nat.zero_le _) rfl ?_
                refine q_Row_put ha.2.2.2.2.2.1 q3 (fun V2 q3b hf2 => ?_)
                show gX l E _ 121 [some (ga al), some (ga ra), some (ga rb), some (gi i), some (gi j), some (gi stp), some (gi (Dd xs ys i.toNat j.toNat)), some (gi 1)] [] (K, R, V2) _ _
                refine gX_aloadn dX0_lay_121 rfl ?_
                refine gX_gR 2 dX0_lay_122 fdX0_24 rfl rfl ha.1 ha.2.2.2.2.1 ?_
                refine gX_iload dX0_lay_125 rfl ?_
                refine gX_iloadn dX0_lay_127 rfl ?_
                refine gX_virt (J := iX6_put) (av := [gi j, gi i]) (a := (al + 4)) (st := []) dX0_lay_128 lkX0_51 kX6_put vX6_put (gFit_m (by decide)) ha.2.2.2.2.2.2.1 rfl rfl (Nat.le_of_ble_eq_true rfl) (Nat.zero_le _) (Nat.zero_le _) rfl ?_
                refine q_Row_put ha.2.2.2.2.2.2 (q4.kept (hf2 _ (by omega) (by omega)) (hf2 _ (by omega) (by omega))) (fun V3 q4b hf3 => ?_)
                show gX l E _ 131 [some (ga al), some (ga ra), some (ga rb), some (gi i), some (gi j), some (gi stp), some (gi (Dd xs ys i.toNat j.toNat)), some (gi 1)] [] (K, R, V3) _ _
                refine gX_iinc dX0_lay_131 rfl (show (3 : Nat) < 8 from by decide) ⟨by omega, by omega⟩ (ls2 := [some (ga al), some (ga ra), some (ga rb), some (gi (i + 1)), some (gi j), some (gi stp), some (gi (Dd xs ys i.toNat j.toNat)), some (gi 1)]) rfl ?_
                refine gX_iinc dX0_lay_134 rfl (show (4 : Nat) < 8 from by decide) ⟨by omega, by omega⟩ (ls2 := [some (ga al), some (ga ra), some (ga rb), some (gi (i + 1)), some (gi (j + 1)), some (gi stp), some (gi (Dd xs ys i.toNat j.toNat)), some (gi 1)]) rfl ?_
                refine gX_goto (tgt := 165) dX0_lay_137 (by decide) ?_
                refine gX_iinc dX0_lay_165 rfl (show (5 : Nat) < 8 from by decide) ⟨by omega, by omega⟩ (ls2 := [some (ga al), some (ga ra), some (ga rb), some (gi (i + 1)), some (gi (j + 1)), some (gi (stp + 1)), some (gi (Dd xs ys i.toNat j.toNat)), some (gi 1)]) rfl ?_
                refine gX_goto (tgt := 38) dX0_lay_168 (by decide) ?_
                rw [if_pos (by omega)] at hst
                rw [hst] at q2
                refine ih (i + 1) (j + 1) (stp + 1) (some (gi (Dd xs ys i.toNat j.toNat))) (some (gi 1)) V3 (pre ++ [j]) (lput S j i) _ _ (by omega) (by omega) (by omega) (by omega) (by omega) (by omega) (by omega) ?_ (hf1.trans ((hf2.fr (by omega) (by omega)).trans (hf3.fr (by omega) (by omega)))) (by rw [List.length_append, q1]; simp; omega) (by rw [q2, List.append_assoc]; rfl) ?_ q4b ?_ ?_
                · intro i2 j2 r1 r2 r3
                  rw [hf3 _ (by omega) (by omega), hf2 _ (by omega) (by omega)]
                  exact hc1 i2 j2 r1 r2 r3
                · have e9 : xs.length - i.toNat = (xs.length - (i + 1).toNat) + 1 := by omega
                  rw [e9, show i = (pre.length : Int) by omega, lput_app] at q3b
                  rw [show (i + 1).toNat = pre.length + 1 by omega]
                  have e8 : xs.length - ((pre.length : Int) + 1).toNat = xs.length - (pre.length + 1) := by omega
                  rw [e8] at q3b
                  exact q3b.kept (hf3 _ (by omega) (by omega)) (hf3 _ (by omega) (by omega))
                · refine ⟨by rw [lput_len]; exact q5.1, fun q hq => ?_⟩
                  have hS := q5.1
                  rw [lat_lput (by omega) (by omega) (by omega)]
                  by_cases c : (q : Int) = j
                  · rw [if_pos c]
                    constructor
                    · intro z; omega
                    · intro z; exact absurd (List.mem_append_right pre (by rw [c]; exact List.mem_singleton.mpr rfl)) z
                  · rw [if_neg c, q5.2 q hq]
                    constructor
                    · intro z z2; exact (List.mem_append.mp z2).elim z (fun z3 => c (List.mem_singleton.mp z3))
                    · intro z z2; exact z (List.mem_append_left _ z2)
                · intro v hv
                  rcases List.mem_append.mp hv with hv | hv
                  · have := q6 v hv; omega
                  · rw [List.mem_singleton.mp hv]; omega
            · refine gX_aloadn dX0_lay_83 rfl ?_
              refine gX_iload dX0_lay_84 rfl ?_
              refine gX_virt (J := iX6_has) (av := [gi j]) (a := rb) (st := []) dX0_lay_86 lkX0_47 kX6_has vX6_has (gFit_m (by decide)) hrb.1 rfl rfl (Nat.le_of_ble_eq_true rfl) (Nat.zero_le _) (Nat.zero_le _) rfl ?_
              refine q_Row_has hrb (hy.fr hf1 (by omega)) ?_
              show gX l E _ 89 [some (ga al), some (ga ra), some (ga rb), some (gi i), some (gi j), some (gi stp), some (gi (Dd xs ys i.toNat j.toNat)), some (gi 1)] [gi (lhas ys j)] (K, R, V1) _ _
              have eh : lhas ys j = 0 := by unfold lhas; rw [if_neg (by omega)]
              rw [eh]
              refine gX_ifeq (tgt := 140) dX0_lay_89 (by decide) (fun k1 => ?_) (fun k1 => by exfalso; omega)
              refine gX_iload dX0_lay_140 rfl ?_
              refine gX_aloadn dX0_lay_142 rfl ?_
              refine gX_iloadn dX0_lay_143 rfl ?_
              refine gX_iconst dX0_lay_144 ⟨by decide, by decide⟩ ?_
              refine gX_iadd dX0_lay_145 ⟨by omega, by omega⟩ ?_
              refine gX_iload dX0_lay_146 rfl ?_
              refine gX_virt (J := iX0_costAt) (av := [gi (i + 1), gi j]) (a := al) (st := [gi (Dd xs ys i.toNat j.toNat)]) dX0_lay_148 lkX0_31 kX0_costAt vX0_costAt (gFit_m (by decide)) ha.1 rfl rfl (Nat.le_of_ble_eq_true rfl) (Nat.zero_le _) (Nat.zero_le _) rfl ?_
              refine c_costAt ha ?_
              show gX l E _ 151 [some (ga al), some (ga ra), some (ga rb), some (gi i), some (gi j), some (gi stp), some (gi (Dd xs ys i.toNat j.toNat)), some (gi 1)] [gi (cAt V1 (al + 1) (i + 1) j), gi (Dd xs ys i.toNat j.toNat)] (K, R, V1) _ _
              rw [cAt_is hc1 hxl hyl (by omega) (by omega) (by omega) (by omega) (by omega)]
              refine gX_iconst dX0_lay_151 ⟨by decide, by decide⟩ ?_
              refine gX_iadd dX0_lay_152 ⟨by omega, by omega⟩ ?_
              refine gX_icmpne (tgt := 162) dX0_lay_153 (by decide) (fun k2 => ?_) (fun k2 => ?_)
              · exfalso
                have n1 := Dd_right xs ys (i := i.toNat) (j := j.toNat) (by omega) (by omega)
                have n2 := Dd_right xs ys (i := (i + 1).toNat) (j := j.toNat) (by omega) (by omega)
                omega
              · refine gX_iinc dX0_lay_156 rfl (show (3 : Nat) < 8 from by decide) ⟨by omega, by omega⟩ (ls2 := [some (ga al), some (ga ra), some (ga rb), some (gi (i + 1)), some (gi j), some (gi stp), some (gi (Dd xs ys i.toNat j.toNat)), some (gi 1)]) rfl ?_
                refine gX_goto (tgt := 165) dX0_lay_159 (by decide) ?_
                refine gX_iinc dX0_lay_165 rfl (show (5 : Nat) < 8 from by decide) ⟨by omega, by omega⟩ (ls2 := [some (ga al), some (ga ra), some (ga rb), some (gi (i + 1)), some (gi j), some (gi (stp + 1)), some (gi (Dd xs ys i.toNat j.toNat)), some (gi 1)]) rfl ?_
                refine gX_goto (tgt := 38) dX0_lay_168 (by decide) ?_
                have hst := alg_drop_r (xs := xs) (ys := ys) (i := i.toNat) (j := j.toNat) (by omega) (by omega) j
                rw [show i.toNat + 1 = (i + 1).toNat by omega] at hst
                rw [hst] at q2
                refine ih (i + 1) j (stp + 1) (some (gi (Dd xs ys i.toNat j.toNat))) (some (gi 1)) V1 (pre ++ [-1]) S _ _ (by omega) (by omega) (by omega) (by omega) (by omega) (by omega) (by omega) hc1 hf1 (by rw [List.length_append, q1]; simp; omega) (by rw [q2, List.append_assoc]; rfl) ?_ q4 ?_ ?_
                · have e9 : xs.length - i.toNat = (xs.length - (i + 1).toNat) + 1 := by omega
                  rw [e9, List.replicate_succ] at q3
                  rw [List.append_assoc]
                  exact q3
                · refine ⟨q5.1, fun q hq => ?_⟩
                  rw [q5.2 q hq]
                  constructor
                  · intro z z2; exact (List.mem_append.mp z2).elim z (fun z3 => by have := List.mem_singleton.mp z3; omega)
                  · intro z z2; exact z (List.mem_append_left _ z2)
                · intro v hv
                  rcases List.mem_append.mp hv with hv | hv
                  · exact q6 v hv
                  · rw [List.mem_singleton.mp hv]; omega
          · refine gX_iconst dX0_lay_76 ⟨by decide, by decide⟩ ?_
            refine gX_goto (tgt := 81) dX0_lay_77 (by decide) ?_
            refine gX_istore dX0_lay_81 (show (7 : Nat) < 8 from by decide) (ls2 := [some (ga al), some (ga ra), some (ga rb), some (gi i), some (gi j), some (gi stp), some (gi (Dd xs ys i.toNat j.toNat)), some (gi 0)]) rfl ?_
            by_cases hjl : j < ys.length
            · have hly : lat ys j = ys[j.toNat] := by
                have h8 := lat_nat (xs := ys) (j := j.toNat) (by omega)
                rw [Int.toNat_of_nonneg (by omega)] at h8
                exact h8
              have hst := alg_drop (xs := xs) (ys := ys) (i := i.toNat) (j := j.toNat) (by omega) (by omega) j
              rw [hlx, hly] at h3
              rw [if_pos h3] at hst
              have b1 := Dd_nn xs ys i.toNat j.toNat
              have b2 := Dd_nn xs ys (i + 1).toNat j.toNat
              have b3 := Dd_nn xs ys (i + 1).toNat (j + 1).toNat
              have b5 := Dd_le xs ys (i + 1).toNat j.toNat
              have b6 := Dd_le xs ys (i + 1).toNat (j + 1).toNat
              have z1 : i.toNat + 1 = (i + 1).toNat := by omega
              have z2 : j.toNat + 1 = (j + 1).toNat := by omega
              rw [z1, z2] at hst
              refine gX_aloadn dX0_lay_83 rfl ?_
              refine gX_iload dX0_lay_84 rfl ?_
              refine gX_virt (J := iX6_has) (av := [gi j]) (a := rb) (st := []) dX0_lay_86 lkX0_47 kX6_has vX6_has (gFit_m (by decide)) hrb.1 rfl rfl (Nat.le_of_ble_eq_true rfl) (Nat.zero_le _) (Nat.zero_le _) rfl ?_
              refine q_Row_has hrb (hy.fr hf1 (by omega)) ?_
              show gX l E _ 89 [some (ga al), some (ga ra), some (ga rb), some (gi i), some (gi j), some (gi stp), some (gi (Dd xs ys i.toNat j.toNat)), some (gi 0)] [gi (lhas ys j)] (K, R, V1) _ _
              have eh : lhas ys j = 1 := by unfold lhas; rw [if_pos (by omega)]
              rw [eh]
              refine gX_ifeq (tgt := 140) dX0_lay_89 (by decide) (fun k1 => by exfalso; omega) (fun k1 => ?_)
              refine gX_iload dX0_lay_92 rfl ?_
              refine gX_aloadn dX0_lay_94 rfl ?_
              refine gX_iloadn dX0_lay_95 rfl ?_
              refine gX_iconst dX0_lay_96 ⟨by decide, by decide⟩ ?_
              refine gX_iadd dX0_lay_97 ⟨by omega, by omega⟩ ?_
              refine gX_iload dX0_lay_98 rfl ?_
              refine gX_iconst dX0_lay_100 ⟨by decide, by decide⟩ ?_
              refine gX_iadd dX0_lay_101 ⟨by omega, by omega⟩ ?_
              refine gX_virt (J := iX0_costAt) (av := [gi (i + 1), gi (j + 1)]) (a := al) (st := [gi (Dd xs ys i.toNat j.toNat)]) dX0_lay_102 lkX0_31 kX0_costAt vX0_costAt (gFit_m (by decide)) ha.1 rfl rfl (Nat.le_of_ble_eq_true rfl) (Nat.zero_le _) (Nat.zero_le _) rfl ?_
              refine c_costAt ha ?_
              show gX l E _ 105 [some (ga al), some (ga ra), some (ga rb), some (gi i), some (gi j), some (gi stp), some (gi (Dd xs ys i.toNat j.toNat)), some (gi 0)] [gi (cAt V1 (al + 1) (i + 1) (j + 1)), gi (Dd xs ys i.toNat j.toNat)] (K, R, V1) _ _
              rw [cAt_is hc1 hxl hyl (by omega) (by omega) (by omega) (by omega) (by omega)]
              refine gX_iload dX0_lay_105 rfl ?_
              refine gX_iadd dX0_lay_107 ⟨by omega, by omega⟩ ?_
              refine gX_icmpne (tgt := 140) dX0_lay_108 (by decide) (fun k2 => ?_) (fun k2 => ?_)
              · refine gX_iload dX0_lay_140 rfl ?_
                refine gX_aloadn dX0_lay_142 rfl ?_
                refine gX_iloadn dX0_lay_143 rfl ?_
                refine gX_iconst dX0_lay_144 ⟨by decide, by decide⟩ ?_
                refine gX_iadd dX0_lay_145 ⟨by omega, by omega⟩ ?_
                refine gX_iload dX0_lay_146 rfl ?_
                refine gX_virt (J := iX0_costAt) (av := [gi (i + 1), gi j]) (a := al) (st := [gi (Dd xs ys i.toNat j.toNat)]) dX0_lay_148 lkX0_31 kX0_costAt vX0_costAt (gFit_m (by decide)) ha.1 rfl rfl (Nat.le_of_ble_eq_true rfl) (Nat.zero_le _) (Nat.zero_le _) rfl ?_
                refine c_costAt ha ?_
                show gX l E _ 151 [some (ga al), some (ga ra), some (ga rb), some (gi i), some (gi j), some (gi stp), some (gi (Dd xs ys i.toNat j.toNat)), some (gi 0)] [gi (cAt V1 (al + 1) (i + 1) j), gi (Dd xs ys i.toNat j.toNat)] (K, R, V1) _ _
                rw [cAt_is hc1 hxl hyl (by omega) (by omega) (by omega) (by omega) (by omega)]
                refine gX_iconst dX0_lay_151 ⟨by decide, by decide⟩ ?_
                refine gX_iadd dX0_lay_152 ⟨by omega, by omega⟩ ?_
                refine gX_icmpne (tgt := 162) dX0_lay_153 (by decide) (fun k3 => ?_) (fun k3 => ?_)
                · refine gX_iinc dX0_lay_162 rfl (show (4 : Nat) < 8 from by decide) ⟨by omega, by omega⟩ (ls2 := [some (ga al), some (ga ra), some (ga rb), some (gi i), some (gi (j + 1)), some (gi stp), some (gi (Dd xs ys i.toNat j.toNat)), some (gi 0)]) rfl ?_
                  refine gX_iinc dX0_lay_165 rfl (show (5 : Nat) < 8 from by decide) ⟨by omega, by omega⟩ (ls2 := [some (ga al), some (ga ra), some (ga rb), some (gi i), some (gi (j + 1)), some (gi (stp + 1)), some (gi (Dd xs ys i.toNat j.toNat)), some (gi 0)]) rfl ?_
                  refine gX_goto (tgt := 38) dX0_lay_168 (by decide) ?_
                  rw [if_neg (by omega), if_neg (by omega)] at hst
                  rw [hst] at q2
                  exact ih i (j + 1) (stp + 1) (some (gi (Dd xs ys i.toNat j.toNat))) (some (gi 0)) V1 pre S _ _ (by omega) (by omega) (by omega) (by omega) (by omega) (by omega) (by omega) hc1 hf1 q1 q2 q3 q4 q5 (fun v hv => by have := q6 v hv; omega)
                · refine gX_iinc dX0_lay_156 rfl (show (3 : Nat) < 8 from by decide) ⟨by omega, by omega⟩ (ls2 := [some (ga al), some (ga ra), some (ga rb), some (gi (i + 1)), some (gi j), some (gi stp), some (gi (Dd xs ys i.toNat j.toNat)), some (gi 0)]) rfl ?_
                  refine gX_goto (tgt := 165) dX0_lay_159 (by decide) ?_
                  refine gX_iinc dX0_lay_165 rfl (show (5 : Nat) < 8 from by decide) ⟨by omega, by omega⟩ (ls2 := [some (ga al), some (ga ra), some (ga rb), some (gi (i + 1)), some (gi j), some (gi (stp + 1)), some (gi (Dd xs ys i.toNat j.toNat)), some (gi 0)]) rfl ?_
                  refine gX_goto (tgt := 38) dX0_lay_168 (by decide) ?_
                  rw [if_neg (by omega), if_pos (by omega)] at hst
                  rw [hst] at q2
                  refine ih (i + 1) j (stp + 1) (some (gi (Dd xs ys i.toNat j.toNat))) (some (gi 0)) V1 (pre ++ [-1]) S _ _ (by omega) (by omega) (by omega) (by omega) (by omega) (by omega) (by omega) hc1 hf1 (by rw [List.length_append, q1]; simp; omega) (by rw [q2, List.append_assoc]; rfl) ?_ q4 ?_ ?_
                  · have e9 : xs.length - i.toNat = (xs.length - (i + 1).toNat) + 1 := by omega
                    rw [e9, List.replicate_succ] at q3
                    rw [List.append_assoc]
                    exact q3
                  · refine ⟨q5.1, fun q hq => ?_⟩
                    rw [q5.2 q hq]
                    constructor
                    · intro z z2; exact (List.mem_append.mp z2).elim z (fun z3 => by have := List.mem_singleton.mp z3; omega)
                    · intro z z2; exact z (List.mem_append_left _ z2)
                  · intro v hv
                    rcases List.mem_append.mp hv with hv | hv
                    · exact q6 v hv
                    · rw [List.mem_singleton.mp hv]; omega
              · refine gX_aloadn dX0_lay_111 rfl ?_
                refine gX_gR 1 dX0_lay_112 fdX0_20 rfl rfl ha.1 ha.2.2.2.1 ?_
                refine gX_iloadn dX0_lay_115 rfl ?_
                refine gX_iload dX0_lay_116 rfl ?_
                refine gX_virt (J := iX6_put) (av := [gi i, gi j]) (a := (al + 2)) (st := []) dX0_lay_118 lkX0_51 kX6_put vX6_put (gFit_m (by decide)) ha.2.2.2.2.2.1.1 rfl rfl (Nat.le_of_ble_eq_true rfl) (Nat.zero_le _) (Nat.zero_le _) rfl ?_
                refine q_Row_put ha.2.2.2.2.2.1 q3 (fun V2 q3b hf2 => ?_)
                show gX l E _ 121 [some (ga al), some (ga ra), some (ga rb), some (gi i), some (gi j), some (gi stp), some (gi (Dd xs ys i.toNat j.toNat)), some (gi 0)] [] (K, R, V2) _ _
                refine gX_aloadn dX0_lay_121 rfl ?_
                refine gX_gR 2 dX0_lay_122 fdX0_24 rfl rfl ha.1 ha.2.2.2.2.1 ?_
                refine gX_iload dX0_lay_125 rfl ?_
                refine gX_iloadn dX0_lay_127 rfl ?_
                refine gX_virt (J := iX6_put) (av := [gi j, gi i]) (a := (al + 4)) (st := []) dX0_lay_128 lkX0_51 kX6_put vX6_put (gFit_m (by decide)) ha.2.2.2.2.2.2.1 rfl rfl (Nat.le_of_ble_eq_true rfl) (Nat.zero_le _) (Nat.zero_le _) rfl ?_
                refine q_Row_put ha.2.2.2.2.2.2 (q4.kept (hf2 _ (by omega) (by omega)) (hf2 _ (by omega) (by omega))) (fun V3 q4b hf3 => ?_)
                show gX l E _ 131 [some (ga al), some (ga ra), some (ga rb), some (gi i), some (gi j), some (gi stp), some (gi (Dd xs ys i.toNat j.toNat)), some (gi 0)] [] (K, R, V3) _ _
                refine gX_iinc dX0_lay_131 rfl (show (3 : Nat) < 8 from by decide) ⟨by omega, by omega⟩ (ls2 := [some (ga al), some (ga ra), some (ga rb), some (gi (i + 1)), some (gi j), some (gi stp), some (gi (Dd xs ys i.toNat j.toNat)), some (gi 0)]) rfl ?_
                refine gX_iinc dX0_lay_134 rfl (show (4 : Nat) < 8 from by decide) ⟨by omega, by omega⟩ (ls2 := [some (ga al), some (ga ra), some (ga rb), some (gi (i + 1)), some (gi (j + 1)), some (gi stp), some (gi (Dd xs ys i.toNat j.toNat)), some (gi 0)]) rfl ?_
                refine gX_goto (tgt := 165) dX0_lay_137 (by decide) ?_
                refine gX_iinc dX0_lay_165 rfl (show (5 : Nat) < 8 from by decide) ⟨by omega, by omega⟩ (ls2 := [some (ga al), some (ga ra), some (ga rb), some (gi (i + 1)), some (gi (j + 1)), some (gi (stp + 1)), some (gi (Dd xs ys i.toNat j.toNat)), some (gi 0)]) rfl ?_
                refine gX_goto (tgt := 38) dX0_lay_168 (by decide) ?_
                rw [if_pos (by omega)] at hst
                rw [hst] at q2
                refine ih (i + 1) (j + 1) (stp + 1) (some (gi (Dd xs ys i.toNat j.toNat))) (some (gi 0)) V3 (pre ++ [j]) (lput S j i) _ _ (by omega) (by omega) (by omega) (by omega) (by omega) (by omega) (by omega) ?_ (hf1.trans ((hf2.fr (by omega) (by omega)).trans (hf3.fr (by omega) (by omega)))) (by rw [List.length_append, q1]; simp; omega) (by rw [q2, List.append_assoc]; rfl) ?_ q4b ?_ ?_
                · intro i2 j2 r1 r2 r3
                  rw [hf3 _ (by omega) (by omega), hf2 _ (by omega) (by omega)]
                  exact hc1 i2 j2 r1 r2 r3
                · have e9 : xs.length - i.toNat = (xs.length - (i + 1).toNat) + 1 := by omega
                  rw [e9, show i = (pre.length : Int) by omega, lput_app] at q3b
                  rw [show (i + 1).toNat = pre.length + 1 by omega]
                  have e8 : xs.length - ((pre.length : Int) + 1).toNat = xs.length - (pre.length + 1) := by omega
                  rw [e8] at q3b
                  exact q3b.kept (hf3 _ (by omega) (by omega)) (hf3 _ (by omega) (by omega))
                · refine ⟨by rw [lput_len]; exact q5.1, fun q hq => ?_⟩
                  have hS := q5.1
                  rw [lat_lput (by omega) (by omega) (by omega)]
                  by_cases c : (q : Int) = j
                  · rw [if_pos c]
                    constructor
                    · intro z; omega
                    · intro z; exact absurd (List.mem_append_right pre (by rw [c]; exact List.mem_singleton.mpr rfl)) z
                  · rw [if_neg c, q5.2 q hq]
                    constructor
                    · intro z z2; exact (List.mem_append.mp z2).elim z (fun z3 => c (List.mem_singleton.mp z3))
                    · intro z z2; exact z (List.mem_append_left _ z2)
                · intro v hv
                  rcases List.mem_append.mp hv with hv | hv
                  · have := q6 v hv; omega
                  · rw [List.mem_singleton.mp hv]; omega
            · refine gX_aloadn dX0_lay_83 rfl ?_
              refine gX_iload dX0_lay_84 rfl ?_
              refine gX_virt (J := iX6_has) (av := [gi j]) (a := rb) (st := []) dX0_lay_86 lkX0_47 kX6_has vX6_has (gFit_m (by decide)) hrb.1 rfl rfl (Nat.le_of_ble_eq_true rfl) (Nat.zero_le _) (Nat.zero_le _) rfl ?_
              refine q_Row_has hrb (hy.fr hf1 (by omega)) ?_
              show gX l E _ 89 [some (ga al), some (ga ra), some (ga rb), some (gi i), some (gi j), some (gi stp), some (gi (Dd xs ys i.toNat j.toNat)), some (gi 0)] [gi (lhas ys j)] (K, R, V1) _ _
              have eh : lhas ys j = 0 := by unfold lhas; rw [if_neg (by omega)]
              rw [eh]
              refine gX_ifeq (tgt := 140) dX0_lay_89 (by decide) (fun k1 => ?_) (fun k1 => by exfalso; omega)
              refine gX_iload dX0_lay_140 rfl ?_
              refine gX_aloadn dX0_lay_142 rfl ?_
              refine gX_iloadn dX0_lay_143 rfl ?_
              refine gX_iconst dX0_lay_144 ⟨by decide, by decide⟩ ?_
              refine gX_iadd dX0_lay_145 ⟨by omega, by omega⟩ ?_
              refine gX_iload dX0_lay_146 rfl ?_
              refine gX_virt (J := iX0_costAt) (av := [gi (i + 1), gi j]) (a := al) (st := [gi (Dd xs ys i.toNat j.toNat)]) dX0_lay_148 lkX0_31 kX0_costAt vX0_costAt (gFit_m (by decide)) ha.1 rfl rfl (Nat.le_of_ble_eq_true rfl) (Nat.zero_le _) (Nat.zero_le _) rfl ?_
              refine c_costAt ha ?_
              show gX l E _ 151 [some (ga al), some (ga ra), some (ga rb), some (gi i), some (gi j), some (gi stp), some (gi (Dd xs ys i.toNat j.toNat)), some (gi 0)] [gi (cAt V1 (al + 1) (i + 1) j), gi (Dd xs ys i.toNat j.toNat)] (K, R, V1) _ _
              rw [cAt_is hc1 hxl hyl (by omega) (by omega) (by omega) (by omega) (by omega)]
              refine gX_iconst dX0_lay_151 ⟨by decide, by decide⟩ ?_
              refine gX_iadd dX0_lay_152 ⟨by omega, by omega⟩ ?_
              refine gX_icmpne (tgt := 162) dX0_lay_153 (by decide) (fun k2 => ?_) (fun k2 => ?_)
              · exfalso
                have n1 := Dd_right xs ys (i := i.toNat) (j := j.toNat) (by omega) (by omega)
                have n2 := Dd_right xs ys (i := (i + 1).toNat) (j := j.toNat) (by omega) (by omega)
                omega
              · refine gX_iinc dX0_lay_156 rfl (show (3 : Nat) < 8 from by decide) ⟨by omega, by omega⟩ (ls2 := [some (ga al), some (ga ra), some (ga rb), some (gi (i + 1)), some (gi j), some (gi stp), some (gi (Dd xs ys i.toNat j.toNat)), some (gi 0)]) rfl ?_
                refine gX_goto (tgt := 165) dX0_lay_159 (by decide) ?_
                refine gX_iinc dX0_lay_165 rfl (show (5 : Nat) < 8 from by decide) ⟨by omega, by omega⟩ (ls2 := [some (ga al), some (ga ra), some (ga rb), some (gi (i + 1)), some (gi j), some (gi (stp + 1)), some (gi (Dd xs ys i.toNat j.toNat)), some (gi 0)]) rfl ?_
                refine gX_goto (tgt := 38) dX0_lay_168 (by decide) ?_
                have hst := alg_drop_r (xs := xs) (ys := ys) (i := i.toNat) (j := j.toNat) (by omega) (by omega) j
                rw [show i.toNat + 1 = (i + 1).toNat by omega] at hst
                rw [hst] at q2
                refine ih (i + 1) j (stp + 1) (some (gi (Dd xs ys i.toNat j.toNat))) (some (gi 0)) V1 (pre ++ [-1]) S _ _ (by omega) (by omega) (by omega) (by omega) (by omega) (by omega) (by omega) hc1 hf1 (by rw [List.length_append, q1]; simp; omega) (by rw [q2, List.append_assoc]; rfl) ?_ q4 ?_ ?_
                · have e9 : xs.length - i.toNat = (xs.length - (i + 1).toNat) + 1 := by omega
                  rw [e9, List.replicate_succ] at q3
                  rw [List.append_assoc]
                  exact q3
                · refine ⟨q5.1, fun q hq => ?_⟩
                  rw [q5.2 q hq]
                  constructor
                  · intro z z2; exact (List.mem_append.mp z2).elim z (fun z3 => by have := List.mem_singleton.mp z3; omega)
                  · intro z z2; exact z (List.mem_append_left _ z2)
                · intro v hv
                  rcases List.mem_append.mp hv with hv | hv
                  · exact q6 v hv
                  · rw [List.mem_singleton.mp hv]; omega
  refine gX_aloadn dX0_lay_0 rfl ?_
  refine gX_aloadn dX0_lay_1 rfl ?_
  refine gX_aloadn dX0_lay_2 rfl ?_
  refine gX_virt (J := iX0_fillCosts) (av := [ga ra, ga rb]) (a := al) (st := []) dX0_lay_3 lkX0_27 kX0_fillCosts vX0_fillCosts (gFit_m (by decide)) ha.1 rfl rfl (Nat.le_of_ble_eq_true rfl) (Nat.zero_le _) (Nat.zero_le _) rfl ?_
  refine c_fillCosts ha hra hrb hx hy ga1 gb1 (fun V1 hc1 hf1 => ?_)
  show gX l E _ 6 [some (ga al), some (ga ra), some (ga rb), none, none, none, none, none] [] (K, R, V1) _ _
  refine gX_aloadn dX0_lay_6 rfl ?_
  refine gX_gR 1 dX0_lay_7 fdX0_20 rfl rfl ha.1 ha.2.2.2.1 ?_
  refine gX_aloadn dX0_lay_10 rfl ?_
  refine gX_virt (J := iX6_length) (av := []) (a := ra) (st := [ga (al + 2)]) dX0_lay_11 lkX0_35 kX6_length vX6_length (gFit_m (by decide)) hra.1 rfl rfl (Nat.le_of_ble_eq_true rfl) (Nat.zero_le _) (Nat.zero_le _) rfl ?_
  refine q_Row_length hra (hx.fr hf1 (by omega)) ?_
  show gX l E _ 14 [some (ga al), some (ga ra), some (ga rb), none, none, none, none, none] [gi xs.length, ga (al + 2)] (K, R, V1) _ _
  refine gX_iconst dX0_lay_14 ⟨by decide, by decide⟩ ?_
  refine gX_virt (J := iX6_fill) (av := [gi xs.length, gi (-1)]) (a := (al + 2)) (st := []) dX0_lay_15 lkX0_39 kX6_fill vX6_fill (gFit_m (by decide)) ha.2.2.2.2.2.1.1 rfl rfl (Nat.le_of_ble_eq_true rfl) (Nat.zero_le _) (Nat.zero_le _) rfl ?_
  refine q_Row_fill ha.2.2.2.2.2.1 (by omega) (by omega) (fun V2 hp2 hf2 => ?_)
  show gX l E _ 18 [some (ga al), some (ga ra), some (ga rb), none, none, none, none, none] [] (K, R, V2) _ _
  refine gX_aloadn dX0_lay_18 rfl ?_
  refine gX_gR 2 dX0_lay_19 fdX0_24 rfl rfl ha.1 ha.2.2.2.2.1 ?_
  refine gX_aloadn dX0_lay_22 rfl ?_
  refine gX_virt (J := iX6_length) (av := []) (a := rb) (st := [ga (al + 4)]) dX0_lay_23 lkX0_35 kX6_length vX6_length (gFit_m (by decide)) hrb.1 rfl rfl (Nat.le_of_ble_eq_true rfl) (Nat.zero_le _) (Nat.zero_le _) rfl ?_
  refine q_Row_length hrb ((hy.fr hf1 (by omega)).kept (hf2 _ (by omega) (by omega)) (hf2 _ (by omega) (by omega))) ?_
  show gX l E _ 26 [some (ga al), some (ga ra), some (ga rb), none, none, none, none, none] [gi ys.length, ga (al + 4)] (K, R, V2) _ _
  refine gX_iconst dX0_lay_26 ⟨by decide, by decide⟩ ?_
  refine gX_virt (J := iX6_fill) (av := [gi ys.length, gi (-1)]) (a := (al + 4)) (st := []) dX0_lay_27 lkX0_39 kX6_fill vX6_fill (gFit_m (by decide)) ha.2.2.2.2.2.2.1 rfl rfl (Nat.le_of_ble_eq_true rfl) (Nat.zero_le _) (Nat.zero_le _) rfl ?_
  refine q_Row_fill ha.2.2.2.2.2.2 (by omega) (by omega) (fun V3 hp3 hf3 => ?_)
  show gX l E _ 30 [some (ga al), some (ga ra), some (ga rb), none, none, none, none, none] [] (K, R, V3) _ _
  refine gX_iconst dX0_lay_30 ⟨by decide, by decide⟩ ?_
  refine gX_istoren dX0_lay_31 (show (3 : Nat) < 8 from by decide) (ls2 := [some (ga al), some (ga ra), some (ga rb), some (gi 0), none, none, none, none]) rfl ?_
  refine gX_iconst dX0_lay_32 ⟨by decide, by decide⟩ ?_
  refine gX_istore dX0_lay_33 (show (4 : Nat) < 8 from by decide) (ls2 := [some (ga al), some (ga ra), some (ga rb), some (gi 0), some (gi 0), none, none, none]) rfl ?_
  refine gX_iconst dX0_lay_35 ⟨by decide, by decide⟩ ?_
  refine gX_istore dX0_lay_36 (show (5 : Nat) < 8 from by decide) (ls2 := [some (ga al), some (ga ra), some (ga rb), some (gi 0), some (gi 0), some (gi 0), none, none]) rfl ?_
  refine lp (xs.length + ys.length + 1) 0 0 0 none none V3 [] _ _ _ (by omega) (by omega) (by omega) (by omega) (by omega) (by omega) (by omega) ?_ ?_ rfl rfl ?_ hp3 ?_ (fun v hv => by cases hv)
  · intro i2 j2 r1 r2 r3
    rw [hf3 _ (by omega) (by omega), hf2 _ (by omega) (by omega)]
    exact hc1 i2 j2 r1 r2 r3
  · exact (hf1.wide (by omega) (by omega)).trans ((hf2.fr (by omega) (by omega)).trans (hf3.fr (by omega) (by omega)))
  · rw [List.nil_append]
    have := hp2.kept (hf3 _ (by omega) (by omega)) (hf3 _ (by omega) (by omega))
    simpa using this
  · refine ⟨by simp, fun q hq => ?_⟩
    have hg : (List.replicate (ys.length : Int).toNat (-1 : Int))[q]? = some (-1) := by
      rw [List.getElem?_replicate, if_pos (by omega)]
    rw [lat_of hg]
    simp
end ALIGN
