/-! The reference: one step of a walk. Written by wip/whole/tools/mk_md30.py. -/
/-- printed, and place, span and gloss of frame D changed -/
def woF (V V' : Int → Int → Int) (D : Int) : Prop := (∀ a, a ≠ 775 → a ≠ 811 → a ≠ 806 → a ≠ 807 → a ≠ 808 → V' a = V a) ∧ (∀ a, 805 ≤ a → a ≤ 808 → ∀ j, j ≠ D → V' a j = V a j) ∧ ∀ k, k ≠ 55 → V' 775 k = V 775 k
theorem woF.rf {V : Int → Int → Int} {D : Int} : woF V V D := ⟨fun _ _ _ _ _ _ => rfl, fun _ _ _ _ _ => rfl, fun _ _ => rfl⟩
theorem woF.trans {V V1 V2 : Int → Int → Int} {D : Int} (h : woF V V1 D) (h2 : woF V1 V2 D) : woF V V2 D := ⟨fun a a1 a2 a3 a4 a5 => (h2.1 a a1 a2 a3 a4 a5).trans (h.1 a a1 a2 a3 a4 a5), fun a a1 a2 j hj => (h2.2.1 a a1 a2 j hj).trans (h.2.1 a a1 a2 j hj), fun k k1 => (h2.2.2 k k1).trans (h.2.2 k k1)⟩
theorem woF.wl {V V' : Int → Int → Int} {D : Int} (h : woF V V' D) : wlF V V' := ⟨fun a a1 a2 => h.1 a a1 (by omega) (by omega) (by omega) (by omega), fun k k1 k2 k3 => h.2.2 k k3⟩
theorem pfF.wo {V V' : Int → Int → Int} {D : Int} (h : pfF V V') : woF V V' D := ⟨fun a a1 a2 _ _ _ => h.1 a a1 a2, fun a a1 a2 j hj => by rw [h.1 a (by omega) (by omega)], h.2⟩
theorem woF.up {V V1 : Int → Int → Int} {D x a : Int} (h : woF V V1 D) (h1 : 806 ≤ a) (h2 : a ≤ 808) : woF V (gup V1 a D x) D := h.trans ⟨fun a' a1 a2 a3 a4 a5 => gup_ne (by omega), fun a' a1 a2 j hj => gup_c (Or.inr hj), fun k k1 => by rw [gup_ne (by omega)]⟩
theorem pI.kept {V V' : Int → Int → Int} {out : pO} (h : pI V out) (h1 : V' 775 55 = V 775 55) (h2 : V' 811 = V 811) : pI V' out := by
  unfold pI
  rw [h1, h2]
  exact h
theorem prW_0 {A : pO → Int → pO} {xs : List Int} {last i : Int} {n : Nat} {o : pO} (h : ¬ (i ≤ last ∧ i < xs.length)) : prW A xs last n i o = o := by
  cases n with
  | zero => rfl
  | succ n => exact if_neg h
theorem prW_s {A : pO → Int → pO} {xs : List Int} {last i : Int} {n : Nat} {o : pO} (h : i ≤ last ∧ i < xs.length) (hn : 0 < n) : prW A xs last n i o = prW A xs last (n - 1) (i + 1) (prNum A (lat xs i) o) := by
  obtain ⟨m, e⟩ : ∃ m, n = m + 1 := ⟨n - 1, by omega⟩
  subst e
  exact if_pos h
section MD30
variable {l : Launch} {E : gE} {d : Nat} {K : List gK} {R V : Int → Int → Int} {b h p n D N : Int} {Q : gQ} {out : pO} {tx : List Int} {gs : List gG} {e : Int → Int}
set_option maxRecDepth 4000 in
theorem m_walkW (hM : mdK K R) (hv : wV V b tx gs n e) (hw : wdW tx gs) (hh : -1 ≤ h ∧ h < gs.length) (hD : 0 ≤ D ∧ D < 6) (hH : V 805 D = rkE e h) (hP : V 806 D = p) (hp : 0 ≤ p ∧ p < (rwL tx gs h).length) (hpo : pI V out) (hl : out.length + 3 ≤ 700) (hno : ∀ k : Int, 0 ≤ k → k < gs.length → ¬ cvQ (gq gs k) h p) (hQ : ∀ V', pI V' (prNum (ladd 700) (lat (rwL tx gs h) p) out) → V' 806 D = p + 1 → V' 807 D = V 807 D → woF V V' D → Q none (K, R, V')) : gC l E (d + 3) iX12_walkOn [ga 775, gi b, gi D] (K, R, V) Q := by
  refine gC_of kX12_walkOn (ls := [some (ga 775), some (gi b), some (gi D), none, none, none]) rfl (Nat.le_of_ble_eq_true rfl) ?_
  have hx := hv.ex hh.1 hh.2
  have hr := hv.1 h hh.1 hh.2
  obtain ⟨hb0, hb1⟩ := hv.2.2.2.2.2.2.1
  have h8 : 0 ≤ rkE e h → (rwL tx gs h).length ≤ 8 := fun z => hr.2.2.1 (by unfold rkE at z; split at z <;> omega)
  have hi := hr.2.2.2 p hp.1 hp.2
  have hsp := hi.2.2 hno
  have hwd := hw h p hp.1 hp.2
  refine gX_aloadn dX12_walkOn_0 rfl ?_
  refine gX_gR 46 dX12_walkOn_1 fdX12_102 rfl rfl hM.1 (mR46 hM) ?_
  refine gX_iloadn dX12_walkOn_4 rfl ?_
  refine gX_iald dX12_walkOn_5 (mA46 hM) (by omega) (by omega) ?_
  rw [hH]
  refine gX_istoren dX12_walkOn_6 (show (3 : Nat) < 6 from by decide) (ls2 := [some (ga 775), some (gi b), some (gi D), some (gi (rkE e h)), none, none]) rfl ?_
  refine gX_aloadn dX12_walkOn_7 rfl ?_
  refine gX_gR 47 dX12_walkOn_8 fdX12_105 rfl rfl hM.1 (mR47 hM) ?_
  refine gX_iloadn dX12_walkOn_11 rfl ?_
  refine gX_iald dX12_walkOn_12 (mA47 hM) (by omega) (by omega) ?_
  rw [hP]
  refine gX_istore dX12_walkOn_13 (show (4 : Nat) < 6 from by decide) (ls2 := [some (ga 775), some (gi b), some (gi D), some (gi (rkE e h)), some (gi p), none]) rfl ?_
  refine gX_aloadn dX12_walkOn_15 rfl ?_
  refine gX_iloadn dX12_walkOn_16 rfl ?_
  refine gX_iloadn dX12_walkOn_17 rfl ?_
  refine gX_iload dX12_walkOn_18 rfl ?_
  refine gX_virt (J := iX12_spanAt) (av := [gi b, gi (rkE e h), gi p]) (a := 775) (st := []) dX12_walkOn_20 lkX12_308 kX12_spanAt vX12_spanAt (gFit_m (by decide)) hM.1 rfl rfl (Nat.le_of_ble_eq_true rfl) (Nat.zero_le _) (Nat.zero_le _) rfl ?_
  refine m_spanAt hM ⟨by omega, by omega⟩ (by omega) ⟨by omega, by omega⟩ (fun z => by have := h8 z; omega) ?_
  show gX l E _ 23 [some (ga 775), some (gi b), some (gi D), some (gi (rkE e h)), some (gi p), none] [gi (spA V b (rkE e h) p)] (K, R, V) _ _
  refine gX_istore dX12_walkOn_23 (show (5 : Nat) < 6 from by decide) (ls2 := [some (ga 775), some (gi b), some (gi D), some (gi (rkE e h)), some (gi p), some (gi (spA V b (rkE e h) p))]) rfl ?_
  refine gX_iload dX12_walkOn_25 rfl ?_
  refine gX_ifge (tgt := 53) dX12_walkOn_27 (by decide) (fun m1 => ?_) (fun m1 => ?_)
  · exfalso
    omega
  · refine gX_aloadn dX12_walkOn_30 rfl ?_
    refine gX_aloadn dX12_walkOn_31 rfl ?_
    refine gX_iloadn dX12_walkOn_32 rfl ?_
    refine gX_iloadn dX12_walkOn_33 rfl ?_
    refine gX_iload dX12_walkOn_34 rfl ?_
    refine gX_virt (J := iX12_wordAt) (av := [gi b, gi (rkE e h), gi p]) (a := 775) (st := [ga 775]) dX12_walkOn_36 lkX12_318 kX12_wordAt vX12_wordAt (gFit_m (by decide)) hM.1 rfl rfl (Nat.le_of_ble_eq_true rfl) (Nat.zero_le _) (Nat.zero_le _) rfl ?_
    refine m_wordAt hM ⟨by omega, by omega⟩ (by omega) ⟨by omega, by omega⟩ (fun z => by have := h8 z; omega) ?_
    show gX l E _ 39 [some (ga 775), some (gi b), some (gi D), some (gi (rkE e h)), some (gi p), some (gi (spA V b (rkE e h) p))] [gi (wdA V b (rkE e h) p), ga 775] (K, R, V) _ _
    rw [hi.1]
    refine gX_virt (J := iX12_printNumber) (av := [gi (lat (rwL tx gs h) p)]) (a := 775) (st := []) dX12_walkOn_39 lkX12_321 kX12_printNumber vX12_printNumber (gFit_m (by decide)) hM.1 rfl rfl (Nat.le_of_ble_eq_true rfl) (Nat.zero_le _) (Nat.zero_le _) rfl ?_
    refine m_printNumber hM hpo hl hwd (fun V1 h1 f1 => ?_)
    show gX l E _ 42 [some (ga 775), some (gi b), some (gi D), some (gi (rkE e h)), some (gi p), some (gi (spA V b (rkE e h) p))] [] (K, R, V1) _ _
    refine gX_aloadn dX12_walkOn_42 rfl ?_
    refine gX_gR 47 dX12_walkOn_43 fdX12_105 rfl rfl hM.1 (mR47 hM) ?_
    refine gX_iloadn dX12_walkOn_46 rfl ?_
    refine gX_dup2 dX12_walkOn_47 rfl rfl ?_
    refine gX_iald dX12_walkOn_48 (mA47 hM) (by omega) (by omega) ?_
    rw [show V1 806 D = p by rw [f1.1 806 (by omega) (by omega)]; exact hP]
    refine gX_iconst dX12_walkOn_49 ⟨by decide, by decide⟩ ?_
    refine gX_iadd dX12_walkOn_50 ⟨by omega, by omega⟩ ?_
    refine gX_iast dX12_walkOn_51 (mA47 hM) (by omega) (by omega) ?_
    refine gX_vret dX12_walkOn_52 rfl ?_
    exact hQ _ (h1.kept (by rw [gup_ne (by omega)]) (gup_ne (by omega))) gup_s (by rw [gup_ne (by omega), f1.1 807 (by omega) (by omega)]) (f1.wo.up (by omega) (by omega))
set_option maxRecDepth 4000 in
theorem m_walkS (hM : mdK K R) (hv : wV V b tx gs n e) (hw : wdW tx gs) (hh : -1 ≤ h ∧ h < gs.length) (hD : 0 ≤ D ∧ D < 6) (hH : V 805 D = rkE e h) (hP : V 806 D = p) (hp : 0 ≤ p ∧ p < (rwL tx gs h).length) (hpo : pI V out) (n0 : 0 ≤ N) (n1 : N < gs.length) (hN : (gq gs N).2.1 = h ∧ (gq gs N).2.2.1 = p ∧ p ≤ (gq gs N).2.2.2.1 ∧ (gq gs N).2.2.2.1 < (rwL tx gs h).length) (hl : (out.length : Int) + 1 + 3 * ((gq gs N).2.2.2.1 + 1 - p) ≤ 700) (hQ : ∀ V', pI V' (prW (ladd 700) (rwL tx gs h) (gq gs N).2.2.2.1 41 p (ladd 700 out 91)) → V' 806 D = (gq gs N).2.2.2.1 + 1 → V' 807 D = V 782 (20 * b + e N) → V' 808 D = -1 → woF V V' D → Q none (K, R, V')) : gC l E (d + 3) iX12_walkOn [ga 775, gi b, gi D] (K, R, V) Q := by
  refine gC_of kX12_walkOn (ls := [some (ga 775), some (gi b), some (gi D), none, none, none]) rfl (Nat.le_of_ble_eq_true rfl) ?_
  have hx := hv.ex hh.1 hh.2
  have hr := hv.1 h hh.1 hh.2
  obtain ⟨hb0, hb1⟩ := hv.2.2.2.2.2.2.1
  have h8 : 0 ≤ rkE e h → (rwL tx gs h).length ≤ 8 := fun z => hr.2.2.1 (by unfold rkE at z; split at z <;> omega)
  have hi := hr.2.2.2 p hp.1 hp.2
  have hsp := (hi.2.1 N n0 n1).mpr ⟨hN.1.symm, by omega, by omega⟩
  have hs0 := (hv.2.1 N n0 n1).2.2.2.2
  have hl9 := ladd_l (n := 700) (xs := out) (x := 91)
  have lp : ∀ (jj : Nat) (i : Int) (V1 : Int → Int → Int) (o1 : pO) (m : Nat) (bc bs : Nat), (gq gs N).2.2.2.1 + 1 - i < (jj : Int) → p ≤ i → i ≤ (gq gs N).2.2.2.1 + 1 → V1 806 D = i → pI V1 o1 → woF V V1 D → 41 - (i - p) ≤ m → (o1.length : Int) + 3 * ((gq gs N).2.2.2.1 + 1 - i) ≤ 700 → prW (ladd 700) (rwL tx gs h) (gq gs N).2.2.2.1 41 p (ladd 700 out 91) = prW (ladd 700) (rwL tx gs h) (gq gs N).2.2.2.1 m i o1 → gX l E (gFm E (d + 3) iX12_walkOn Q) 59 [some (ga 775), some (gi b), some (gi D), some (gi (rkE e h)), some (gi p), some (gi (V 782 (20 * b + e N)))] [] (K, R, V1) bc bs := by
    intro jj
    induction jj with
    | zero =>
      intro i V1 o1 m bc bs hj q0 q1 q2 q3 q4 q5 q6 q7
      exfalso; omega
    | succ jj ih =>
      intro i V1 o1 m bc bs hj q0 q1 q2 q3 q4 q5 q6 q7
      have hv1 := hv.kept q4.wl
      have hr1 := hv1.1 h hh.1 hh.2
      have hri := hr1.2.2.2
      rw [show V1 782 = V 782 from q4.1 782 (by omega) (by omega) (by omega) (by omega) (by omega)] at hri
      refine gX_aloadn dX12_walkOn_59 rfl ?_
      refine gX_gR 47 dX12_walkOn_60 fdX12_105 rfl rfl hM.1 (mR47 hM) ?_
      refine gX_iloadn dX12_walkOn_63 rfl ?_
      refine gX_iald dX12_walkOn_64 (mA47 hM) (by omega) (by omega) ?_
      rw [q2]
      refine gX_aloadn dX12_walkOn_65 rfl ?_
      refine gX_iloadn dX12_walkOn_66 rfl ?_
      refine gX_iloadn dX12_walkOn_67 rfl ?_
      refine gX_virt (J := iX12_hostSize) (av := [gi b, gi (rkE e h)]) (a := 775) (st := [gi i]) dX12_walkOn_68 lkX12_194 kX12_hostSize vX12_hostSize (gFit_m (by decide)) hM.1 rfl rfl (Nat.le_of_ble_eq_true rfl) (Nat.zero_le _) (Nat.zero_le _) rfl ?_
      refine m_hostSize hM ⟨by omega, by omega⟩ (by omega) ?_
      show gX l E _ 71 [some (ga 775), some (gi b), some (gi D), some (gi (rkE e h)), some (gi p), some (gi (V 782 (20 * b + e N)))] [gi (hsA V1 b (rkE e h)), gi i] (K, R, V1) _ _
      rw [hr1.1]
      refine gX_icmpge (tgt := 120) dX12_walkOn_71 (by decide) (fun b1 => ?_) (fun b1 => ?_)
      · refine gX_aloadn dX12_walkOn_120 rfl ?_
        refine gX_gR 48 dX12_walkOn_121 fdX12_108 rfl rfl hM.1 (mR48 hM) ?_
        refine gX_iloadn dX12_walkOn_124 rfl ?_
        refine gX_iload dX12_walkOn_125 rfl ?_
        refine gX_iast dX12_walkOn_127 (mA48 hM) (by omega) (by omega) ?_
        refine gX_aloadn dX12_walkOn_128 rfl ?_
        refine gX_gR 49 dX12_walkOn_129 fdX12_111 rfl rfl hM.1 (mR49 hM) ?_
        refine gX_iloadn dX12_walkOn_132 rfl ?_
        refine gX_iconst dX12_walkOn_133 ⟨by decide, by decide⟩ ?_
        refine gX_iast dX12_walkOn_134 (mA49 hM) (by omega) (by omega) ?_
        refine gX_vret dX12_walkOn_135 rfl ?_
        have ei : i = (gq gs N).2.2.2.1 + 1 := by
          refine Decidable.byContradiction fun z => ?_
          have c9 := ((hri i (by omega) (by omega)).2.1 N n0 n1).mpr ⟨hN.1.symm, by omega, by omega⟩
          first
          | omega
          | exact absurd c9 (by assumption)
        have q7 := q7.trans (prW_0 (by omega))
        exact hQ (gup (gup V1 807 D (V 782 (20 * b + e N))) 808 D (-1)) (by rw [q7]; exact q3.kept (by rw [gup_ne (by omega), gup_ne (by omega)]) (by rw [gup_ne (by omega), gup_ne (by omega)])) (by rw [gup_ne (by omega), gup_ne (by omega), q2, ei]) (by rw [gup_ne (by omega)]; exact gup_s) gup_s ((q4.up (by omega) (by omega)).up (by omega) (by omega))
      · refine gX_aloadn dX12_walkOn_74 rfl ?_
        refine gX_iloadn dX12_walkOn_75 rfl ?_
        refine gX_iloadn dX12_walkOn_76 rfl ?_
        refine gX_aloadn dX12_walkOn_77 rfl ?_
        refine gX_gR 47 dX12_walkOn_78 fdX12_105 rfl rfl hM.1 (mR47 hM) ?_
        refine gX_iloadn dX12_walkOn_81 rfl ?_
        refine gX_iald dX12_walkOn_82 (mA47 hM) (by omega) (by omega) ?_
        rw [q2]
        refine gX_virt (J := iX12_spanAt) (av := [gi b, gi (rkE e h), gi i]) (a := 775) (st := []) dX12_walkOn_83 lkX12_308 kX12_spanAt vX12_spanAt (gFit_m (by decide)) hM.1 rfl rfl (Nat.le_of_ble_eq_true rfl) (Nat.zero_le _) (Nat.zero_le _) rfl ?_
        refine m_spanAt hM ⟨by omega, by omega⟩ (by omega) ⟨by omega, by omega⟩ (fun z => by have := h8 z; omega) ?_
        show gX l E _ 86 [some (ga 775), some (gi b), some (gi D), some (gi (rkE e h)), some (gi p), some (gi (V 782 (20 * b + e N)))] [gi (spA V1 b (rkE e h) i)] (K, R, V1) _ _
        refine gX_iload dX12_walkOn_86 rfl ?_
        refine gX_icmpne (tgt := 120) dX12_walkOn_88 (by decide) (fun b2 => ?_) (fun b2 => ?_)
        · refine gX_aloadn dX12_walkOn_120 rfl ?_
          refine gX_gR 48 dX12_walkOn_121 fdX12_108 rfl rfl hM.1 (mR48 hM) ?_
          refine gX_iloadn dX12_walkOn_124 rfl ?_
          refine gX_iload dX12_walkOn_125 rfl ?_
          refine gX_iast dX12_walkOn_127 (mA48 hM) (by omega) (by omega) ?_
          refine gX_aloadn dX12_walkOn_128 rfl ?_
          refine gX_gR 49 dX12_walkOn_129 fdX12_111 rfl rfl hM.1 (mR49 hM) ?_
          refine gX_iloadn dX12_walkOn_132 rfl ?_
          refine gX_iconst dX12_walkOn_133 ⟨by decide, by decide⟩ ?_
          refine gX_iast dX12_walkOn_134 (mA49 hM) (by omega) (by omega) ?_
          refine gX_vret dX12_walkOn_135 rfl ?_
          have ei : i = (gq gs N).2.2.2.1 + 1 := by
            refine Decidable.byContradiction fun z => ?_
            have c9 := ((hri i (by omega) (by omega)).2.1 N n0 n1).mpr ⟨hN.1.symm, by omega, by omega⟩
            first
            | omega
            | exact absurd c9 (by assumption)
          have q7 := q7.trans (prW_0 (by omega))
          exact hQ (gup (gup V1 807 D (V 782 (20 * b + e N))) 808 D (-1)) (by rw [q7]; exact q3.kept (by rw [gup_ne (by omega), gup_ne (by omega)]) (by rw [gup_ne (by omega), gup_ne (by omega)])) (by rw [gup_ne (by omega), gup_ne (by omega), q2, ei]) (by rw [gup_ne (by omega)]; exact gup_s) gup_s ((q4.up (by omega) (by omega)).up (by omega) (by omega))
        · refine gX_aloadn dX12_walkOn_91 rfl ?_
          refine gX_aloadn dX12_walkOn_92 rfl ?_
          refine gX_iloadn dX12_walkOn_93 rfl ?_
          refine gX_iloadn dX12_walkOn_94 rfl ?_
          refine gX_aloadn dX12_walkOn_95 rfl ?_
          refine gX_gR 47 dX12_walkOn_96 fdX12_105 rfl rfl hM.1 (mR47 hM) ?_
          refine gX_iloadn dX12_walkOn_99 rfl ?_
          refine gX_iald dX12_walkOn_100 (mA47 hM) (by omega) (by omega) ?_
          rw [q2]
          refine gX_virt (J := iX12_wordAt) (av := [gi b, gi (rkE e h), gi i]) (a := 775) (st := [ga 775]) dX12_walkOn_101 lkX12_318 kX12_wordAt vX12_wordAt (gFit_m (by decide)) hM.1 rfl rfl (Nat.le_of_ble_eq_true rfl) (Nat.zero_le _) (Nat.zero_le _) rfl ?_
          refine m_wordAt hM ⟨by omega, by omega⟩ (by omega) ⟨by omega, by omega⟩ (fun z => by have := h8 z; omega) ?_
          show gX l E _ 104 [some (ga 775), some (gi b), some (gi D), some (gi (rkE e h)), some (gi p), some (gi (V 782 (20 * b + e N)))] [gi (wdA V1 b (rkE e h) i), ga 775] (K, R, V1) _ _
          have c9 := ((hri i (by omega) (by omega)).2.1 N n0 n1).mp (by assumption)
          have c7 := c9.2
          rw [(hri i (by omega) (by omega)).1]
          refine gX_virt (J := iX12_printNumber) (av := [gi (lat (rwL tx gs h) i)]) (a := 775) (st := []) dX12_walkOn_104 lkX12_321 kX12_printNumber vX12_printNumber (gFit_m (by decide)) hM.1 rfl rfl (Nat.le_of_ble_eq_true rfl) (Nat.zero_le _) (Nat.zero_le _) rfl ?_
          refine m_printNumber hM q3 (by omega) (hw h i (by omega) (by omega)) (fun V2 h2 f2 => ?_)
          show gX l E _ 107 [some (ga 775), some (gi b), some (gi D), some (gi (rkE e h)), some (gi p), some (gi (V 782 (20 * b + e N)))] [] (K, R, V2) _ _
          refine gX_aloadn dX12_walkOn_107 rfl ?_
          refine gX_gR 47 dX12_walkOn_108 fdX12_105 rfl rfl hM.1 (mR47 hM) ?_
          refine gX_iloadn dX12_walkOn_111 rfl ?_
          refine gX_dup2 dX12_walkOn_112 rfl rfl ?_
          refine gX_iald dX12_walkOn_113 (mA47 hM) (by omega) (by omega) ?_
          rw [show V2 806 D = i by rw [f2.1 806 (by omega) (by omega)]; exact q2]
          refine gX_iconst dX12_walkOn_114 ⟨by decide, by decide⟩ ?_
          refine gX_iadd dX12_walkOn_115 ⟨by omega, by omega⟩ ?_
          refine gX_iast dX12_walkOn_116 (mA47 hM) (by omega) (by omega) ?_
          refine gX_goto (tgt := 59) dX12_walkOn_117 (by decide) ?_
          have c9 := ((hri i (by omega) (by omega)).2.1 N n0 n1).mp (by assumption)
          have c8 := c9.2
          have ln9 := prNum_l (v := lat (rwL tx gs h) i) (o := o1)
          have q7 := q7.trans (prW_s ⟨by omega, by omega⟩ (by omega))
          exact ih (i + 1) _ (prNum (ladd 700) (lat (rwL tx gs h) i) o1) (m - 1) _ _ (by omega) (by omega) (by omega) gup_s (h2.kept (by rw [gup_ne (by omega)]) (gup_ne (by omega))) ((q4.trans f2.wo).up (by omega) (by omega)) (by omega) (by omega) q7
  refine gX_aloadn dX12_walkOn_0 rfl ?_
  refine gX_gR 46 dX12_walkOn_1 fdX12_102 rfl rfl hM.1 (mR46 hM) ?_
  refine gX_iloadn dX12_walkOn_4 rfl ?_
  refine gX_iald dX12_walkOn_5 (mA46 hM) (by omega) (by omega) ?_
  rw [hH]
  refine gX_istoren dX12_walkOn_6 (show (3 : Nat) < 6 from by decide) (ls2 := [some (ga 775), some (gi b), some (gi D), some (gi (rkE e h)), none, none]) rfl ?_
  refine gX_aloadn dX12_walkOn_7 rfl ?_
  refine gX_gR 47 dX12_walkOn_8 fdX12_105 rfl rfl hM.1 (mR47 hM) ?_
  refine gX_iloadn dX12_walkOn_11 rfl ?_
  refine gX_iald dX12_walkOn_12 (mA47 hM) (by omega) (by omega) ?_
  rw [hP]
  refine gX_istore dX12_walkOn_13 (show (4 : Nat) < 6 from by decide) (ls2 := [some (ga 775), some (gi b), some (gi D), some (gi (rkE e h)), some (gi p), none]) rfl ?_
  refine gX_aloadn dX12_walkOn_15 rfl ?_
  refine gX_iloadn dX12_walkOn_16 rfl ?_
  refine gX_iloadn dX12_walkOn_17 rfl ?_
  refine gX_iload dX12_walkOn_18 rfl ?_
  refine gX_virt (J := iX12_spanAt) (av := [gi b, gi (rkE e h), gi p]) (a := 775) (st := []) dX12_walkOn_20 lkX12_308 kX12_spanAt vX12_spanAt (gFit_m (by decide)) hM.1 rfl rfl (Nat.le_of_ble_eq_true rfl) (Nat.zero_le _) (Nat.zero_le _) rfl ?_
  refine m_spanAt hM ⟨by omega, by omega⟩ (by omega) ⟨by omega, by omega⟩ (fun z => by have := h8 z; omega) ?_
  show gX l E _ 23 [some (ga 775), some (gi b), some (gi D), some (gi (rkE e h)), some (gi p), none] [gi (spA V b (rkE e h) p)] (K, R, V) _ _
  rw [hsp]
  refine gX_istore dX12_walkOn_23 (show (5 : Nat) < 6 from by decide) (ls2 := [some (ga 775), some (gi b), some (gi D), some (gi (rkE e h)), some (gi p), some (gi (V 782 (20 * b + e N)))]) rfl ?_
  refine gX_iload dX12_walkOn_25 rfl ?_
  refine gX_ifge (tgt := 53) dX12_walkOn_27 (by decide) (fun m1 => ?_) (fun m1 => ?_)
  · refine gX_aloadn dX12_walkOn_53 rfl ?_
    refine gX_bipush dX12_walkOn_54 (by decide) ⟨by decide, by decide⟩ ?_
    refine gX_virt (J := iX12_printSign) (av := [gi 91]) (a := 775) (st := []) dX12_walkOn_56 lkX12_324 kX12_printSign vX12_printSign (gFit_m (by decide)) hM.1 rfl rfl (Nat.le_of_ble_eq_true rfl) (Nat.zero_le _) (Nat.zero_le _) rfl ?_
    refine m_printSign hM hpo (by omega) (fun V1 h1 f1 => ?_)
    show gX l E _ 59 [some (ga 775), some (gi b), some (gi D), some (gi (rkE e h)), some (gi p), some (gi (V 782 (20 * b + e N)))] [] (K, R, V1) _ _
    exact lp (((gq gs N).2.2.2.1 + 2 - p).toNat) p V1 (ladd 700 out 91) 41 _ _ (by omega) (by omega) (by omega) (by rw [f1.1 806 (by omega) (by omega)]; exact hP) h1 f1.wo (by omega) (by omega) rfl
  · exfalso
    omega
end MD30
