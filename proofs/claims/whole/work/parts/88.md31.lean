/-! The reference: the walk. Written by wip/whole/tools/mk_md31.py. -/
/-- the order so far -/
def oI (V : Int → Int → Int) (e : Int → Int) (N : Int) : Prop := V 775 53 = N ∧ ∀ k : Int, 0 ≤ k → k < N → V 809 k = e k ∧ V 810 (e k) = k
section MD31
variable {l : Launch} {E : gE} {d : Nat} {K : List gK} {R V : Int → Int → Int} {b h p n D N G SP r0 : Int} {Q : gQ} {out : pO} {tx : List Int} {gs : List gG} {e : Int → Int} {j2 j3 : Option gV} {bc bs : Nat}
set_option maxRecDepth 4000 in
theorem walk_pop (hM : mdK K R) (hv : wV V b tx gs n e) (hD : 0 ≤ D ∧ D < 6) (h50 : V 775 50 = D + 1) (hh : -1 ≤ h ∧ h < gs.length) (hH : V 805 D = rkE e h) (hP : V 806 D = p) (hS : V 807 D = -1) (hp : (rwL tx gs h).length ≤ p) (hk : ∀ (k2 : Option gV) (bc bs : Nat), gX l E (gFm E (d + 4) iX12_walk Q) 20 [some (ga 775), some (gi b), k2, j3] [] (K, R, gup V 775 50 D) bc bs) : gX l E (gFm E (d + 4) iX12_walk Q) 20 [some (ga 775), some (gi b), j2, j3] [] (K, R, V) bc bs := by
  have hx := hv.ex hh.1 hh.2
  have hr := hv.1 h hh.1 hh.2
  obtain ⟨hb0, hb1⟩ := hv.2.2.2.2.2.2.1
  refine gX_aloadn dX12_walk_20 rfl ?_
  refine gX_gI 50 dX12_walk_21 fdX12_312 rfl (Or.inl rfl) hM.1 ?_
  rw [h50]
  refine gX_ifle (tgt := 199) dX12_walk_24 (by decide) (fun m1 => ?_) (fun m1 => ?_)
  · exfalso
    omega
  · refine gX_aloadn dX12_walk_27 rfl ?_
    refine gX_gI 50 dX12_walk_28 fdX12_312 rfl (Or.inl rfl) hM.1 ?_
    rw [h50]
    refine gX_iconst dX12_walk_31 ⟨by decide, by decide⟩ ?_
    refine gX_isub dX12_walk_32 ⟨by omega, by omega⟩ ?_
    rw [show D + 1 - 1 = D by omega]
    refine gX_istoren dX12_walk_33 (show (2 : Nat) < 4 from by decide) (ls2 := [some (ga 775), some (gi b), some (gi D), j3]) rfl ?_
    refine gX_aloadn dX12_walk_34 rfl ?_
    refine gX_gR 48 dX12_walk_35 fdX12_108 rfl rfl hM.1 (mR48 hM) ?_
    refine gX_iloadn dX12_walk_38 rfl ?_
    refine gX_iald dX12_walk_39 (mA48 hM) (by omega) (by omega) ?_
    rw [hS]
    refine gX_ifge (tgt := 85) dX12_walk_40 (by decide) (fun m2 => by exfalso; omega) (fun m2 => ?_)
    refine gX_aloadn dX12_walk_43 rfl ?_
    refine gX_gR 47 dX12_walk_44 fdX12_105 rfl rfl hM.1 (mR47 hM) ?_
    refine gX_iloadn dX12_walk_47 rfl ?_
    refine gX_iald dX12_walk_48 (mA47 hM) (by omega) (by omega) ?_
    rw [hP]
    refine gX_aloadn dX12_walk_49 rfl ?_
    refine gX_iloadn dX12_walk_50 rfl ?_
    refine gX_aloadn dX12_walk_51 rfl ?_
    refine gX_gR 46 dX12_walk_52 fdX12_102 rfl rfl hM.1 (mR46 hM) ?_
    refine gX_iloadn dX12_walk_55 rfl ?_
    refine gX_iald dX12_walk_56 (mA46 hM) (by omega) (by omega) ?_
    rw [hH]
    refine gX_virt (J := iX12_hostSize) (av := [gi b, gi (rkE e h)]) (a := 775) (st := [gi p]) dX12_walk_57 lkX12_194 kX12_hostSize vX12_hostSize (gFit_m (by decide)) hM.1 rfl rfl (Nat.le_of_ble_eq_true rfl) (Nat.zero_le _) (Nat.zero_le _) rfl ?_
    refine m_hostSize hM ⟨by omega, by omega⟩ (by omega) ?_
    show gX l E _ 60 [some (ga 775), some (gi b), some (gi D), j3] [gi (hsA V b (rkE e h)), gi p] (K, R, V) _ _
    rw [hr.1]
    refine gX_icmplt (tgt := 76) dX12_walk_60 (by decide) (fun m3 => ?_) (fun m3 => ?_)
    · exfalso
      omega
    · refine gX_aloadn dX12_walk_63 rfl ?_
      refine gX_dup dX12_walk_64 rfl ?_
      refine gX_gI 50 dX12_walk_65 fdX12_312 rfl (Or.inl rfl) hM.1 ?_
      rw [h50]
      refine gX_iconst dX12_walk_68 ⟨by decide, by decide⟩ ?_
      refine gX_isub dX12_walk_69 ⟨by omega, by omega⟩ ?_
      rw [show D + 1 - 1 = D by omega]
      refine gX_pI 50 dX12_walk_70 fdX12_312 fpX12_312 rfl (Or.inl rfl) hM.1 ?_
      refine gX_goto (tgt := 196) dX12_walk_73 (by decide) ?_
      refine gX_goto (tgt := 20) dX12_walk_196 (by decide) ?_
      exact hk _ _ _
set_option maxRecDepth 4000 in
theorem walk_word (hM : mdK K R) (hv : wV V b tx gs n e) (hD : 0 ≤ D ∧ D < 6) (h50 : V 775 50 = D + 1) (hh : -1 ≤ h ∧ h < gs.length) (hH : V 805 D = rkE e h) (hP : V 806 D = p) (hS : V 807 D = -1) (hw : wdW tx gs) (hp : 0 ≤ p ∧ p < (rwL tx gs h).length) (hpo : pI V out) (hl : out.length + 3 ≤ 700) (hno : ∀ k : Int, 0 ≤ k → k < gs.length → ¬ cvQ (gq gs k) h p) (hk : ∀ (V2 : Int → Int → Int) (k2 : Option gV) (bc bs : Nat), pI V2 (prNum (ladd 700) (lat (rwL tx gs h) p) out) → V2 806 D = p + 1 → V2 807 D = V 807 D → woF V V2 D → gX l E (gFm E (d + 4) iX12_walk Q) 20 [some (ga 775), some (gi b), k2, j3] [] (K, R, V2) bc bs) : gX l E (gFm E (d + 4) iX12_walk Q) 20 [some (ga 775), some (gi b), j2, j3] [] (K, R, V) bc bs := by
  have hx := hv.ex hh.1 hh.2
  have hr := hv.1 h hh.1 hh.2
  obtain ⟨hb0, hb1⟩ := hv.2.2.2.2.2.2.1
  refine gX_aloadn dX12_walk_20 rfl ?_
  refine gX_gI 50 dX12_walk_21 fdX12_312 rfl (Or.inl rfl) hM.1 ?_
  rw [h50]
  refine gX_ifle (tgt := 199) dX12_walk_24 (by decide) (fun m1 => ?_) (fun m1 => ?_)
  · exfalso
    omega
  · refine gX_aloadn dX12_walk_27 rfl ?_
    refine gX_gI 50 dX12_walk_28 fdX12_312 rfl (Or.inl rfl) hM.1 ?_
    rw [h50]
    refine gX_iconst dX12_walk_31 ⟨by decide, by decide⟩ ?_
    refine gX_isub dX12_walk_32 ⟨by omega, by omega⟩ ?_
    rw [show D + 1 - 1 = D by omega]
    refine gX_istoren dX12_walk_33 (show (2 : Nat) < 4 from by decide) (ls2 := [some (ga 775), some (gi b), some (gi D), j3]) rfl ?_
    refine gX_aloadn dX12_walk_34 rfl ?_
    refine gX_gR 48 dX12_walk_35 fdX12_108 rfl rfl hM.1 (mR48 hM) ?_
    refine gX_iloadn dX12_walk_38 rfl ?_
    refine gX_iald dX12_walk_39 (mA48 hM) (by omega) (by omega) ?_
    rw [hS]
    refine gX_ifge (tgt := 85) dX12_walk_40 (by decide) (fun m2 => by exfalso; omega) (fun m2 => ?_)
    refine gX_aloadn dX12_walk_43 rfl ?_
    refine gX_gR 47 dX12_walk_44 fdX12_105 rfl rfl hM.1 (mR47 hM) ?_
    refine gX_iloadn dX12_walk_47 rfl ?_
    refine gX_iald dX12_walk_48 (mA47 hM) (by omega) (by omega) ?_
    rw [hP]
    refine gX_aloadn dX12_walk_49 rfl ?_
    refine gX_iloadn dX12_walk_50 rfl ?_
    refine gX_aloadn dX12_walk_51 rfl ?_
    refine gX_gR 46 dX12_walk_52 fdX12_102 rfl rfl hM.1 (mR46 hM) ?_
    refine gX_iloadn dX12_walk_55 rfl ?_
    refine gX_iald dX12_walk_56 (mA46 hM) (by omega) (by omega) ?_
    rw [hH]
    refine gX_virt (J := iX12_hostSize) (av := [gi b, gi (rkE e h)]) (a := 775) (st := [gi p]) dX12_walk_57 lkX12_194 kX12_hostSize vX12_hostSize (gFit_m (by decide)) hM.1 rfl rfl (Nat.le_of_ble_eq_true rfl) (Nat.zero_le _) (Nat.zero_le _) rfl ?_
    refine m_hostSize hM ⟨by omega, by omega⟩ (by omega) ?_
    show gX l E _ 60 [some (ga 775), some (gi b), some (gi D), j3] [gi (hsA V b (rkE e h)), gi p] (K, R, V) _ _
    rw [hr.1]
    refine gX_icmplt (tgt := 76) dX12_walk_60 (by decide) (fun m3 => ?_) (fun m3 => ?_)
    · refine gX_aloadn dX12_walk_76 rfl ?_
      refine gX_iloadn dX12_walk_77 rfl ?_
      refine gX_iloadn dX12_walk_78 rfl ?_
      refine gX_virt (J := iX12_walkOn) (av := [gi b, gi D]) (a := 775) (st := []) dX12_walk_79 lkX12_333 kX12_walkOn vX12_walkOn (gFit_m (by decide)) hM.1 rfl rfl (Nat.le_of_ble_eq_true rfl) (Nat.zero_le _) (Nat.zero_le _) rfl ?_
      refine m_walkW hM hv hw hh hD hH hP hp hpo hl hno (fun V2 a1 a2 a3 a4 => ?_)
      show gX l E _ 82 [some (ga 775), some (gi b), some (gi D), j3] [] (K, R, V2) _ _
      refine gX_goto (tgt := 196) dX12_walk_82 (by decide) ?_
      refine gX_goto (tgt := 20) dX12_walk_196 (by decide) ?_
      exact hk V2 _ _ _ a1 a2 a3 a4
    · exfalso
      omega
set_option maxRecDepth 4000 in
theorem walk_open (hM : mdK K R) (hv : wV V b tx gs n e) (hD : 0 ≤ D ∧ D < 6) (h50 : V 775 50 = D + 1) (hh : -1 ≤ h ∧ h < gs.length) (hH : V 805 D = rkE e h) (hP : V 806 D = p) (hS : V 807 D = -1) (hw : wdW tx gs) (hp : 0 ≤ p ∧ p < (rwL tx gs h).length) (hpo : pI V out) (n0 : 0 ≤ N) (n1 : N < gs.length) (hN : (gq gs N).2.1 = h ∧ (gq gs N).2.2.1 = p ∧ p ≤ (gq gs N).2.2.2.1 ∧ (gq gs N).2.2.2.1 < (rwL tx gs h).length) (hl : (out.length : Int) + 1 + 3 * ((gq gs N).2.2.2.1 + 1 - p) ≤ 700) (hk : ∀ (V2 : Int → Int → Int) (k2 : Option gV) (bc bs : Nat), pI V2 (prW (ladd 700) (rwL tx gs h) (gq gs N).2.2.2.1 41 p (ladd 700 out 91)) → V2 806 D = (gq gs N).2.2.2.1 + 1 → V2 807 D = V 782 (20 * b + e N) → V2 808 D = -1 → woF V V2 D → gX l E (gFm E (d + 4) iX12_walk Q) 20 [some (ga 775), some (gi b), k2, j3] [] (K, R, V2) bc bs) : gX l E (gFm E (d + 4) iX12_walk Q) 20 [some (ga 775), some (gi b), j2, j3] [] (K, R, V) bc bs := by
  have hx := hv.ex hh.1 hh.2
  have hr := hv.1 h hh.1 hh.2
  obtain ⟨hb0, hb1⟩ := hv.2.2.2.2.2.2.1
  refine gX_aloadn dX12_walk_20 rfl ?_
  refine gX_gI 50 dX12_walk_21 fdX12_312 rfl (Or.inl rfl) hM.1 ?_
  rw [h50]
  refine gX_ifle (tgt := 199) dX12_walk_24 (by decide) (fun m1 => ?_) (fun m1 => ?_)
  · exfalso
    omega
  · refine gX_aloadn dX12_walk_27 rfl ?_
    refine gX_gI 50 dX12_walk_28 fdX12_312 rfl (Or.inl rfl) hM.1 ?_
    rw [h50]
    refine gX_iconst dX12_walk_31 ⟨by decide, by decide⟩ ?_
    refine gX_isub dX12_walk_32 ⟨by omega, by omega⟩ ?_
    rw [show D + 1 - 1 = D by omega]
    refine gX_istoren dX12_walk_33 (show (2 : Nat) < 4 from by decide) (ls2 := [some (ga 775), some (gi b), some (gi D), j3]) rfl ?_
    refine gX_aloadn dX12_walk_34 rfl ?_
    refine gX_gR 48 dX12_walk_35 fdX12_108 rfl rfl hM.1 (mR48 hM) ?_
    refine gX_iloadn dX12_walk_38 rfl ?_
    refine gX_iald dX12_walk_39 (mA48 hM) (by omega) (by omega) ?_
    rw [hS]
    refine gX_ifge (tgt := 85) dX12_walk_40 (by decide) (fun m2 => by exfalso; omega) (fun m2 => ?_)
    refine gX_aloadn dX12_walk_43 rfl ?_
    refine gX_gR 47 dX12_walk_44 fdX12_105 rfl rfl hM.1 (mR47 hM) ?_
    refine gX_iloadn dX12_walk_47 rfl ?_
    refine gX_iald dX12_walk_48 (mA47 hM) (by omega) (by omega) ?_
    rw [hP]
    refine gX_aloadn dX12_walk_49 rfl ?_
    refine gX_iloadn dX12_walk_50 rfl ?_
    refine gX_aloadn dX12_walk_51 rfl ?_
    refine gX_gR 46 dX12_walk_52 fdX12_102 rfl rfl hM.1 (mR46 hM) ?_
    refine gX_iloadn dX12_walk_55 rfl ?_
    refine gX_iald dX12_walk_56 (mA46 hM) (by omega) (by omega) ?_
    rw [hH]
    refine gX_virt (J := iX12_hostSize) (av := [gi b, gi (rkE e h)]) (a := 775) (st := [gi p]) dX12_walk_57 lkX12_194 kX12_hostSize vX12_hostSize (gFit_m (by decide)) hM.1 rfl rfl (Nat.le_of_ble_eq_true rfl) (Nat.zero_le _) (Nat.zero_le _) rfl ?_
    refine m_hostSize hM ⟨by omega, by omega⟩ (by omega) ?_
    show gX l E _ 60 [some (ga 775), some (gi b), some (gi D), j3] [gi (hsA V b (rkE e h)), gi p] (K, R, V) _ _
    rw [hr.1]
    refine gX_icmplt (tgt := 76) dX12_walk_60 (by decide) (fun m3 => ?_) (fun m3 => ?_)
    · refine gX_aloadn dX12_walk_76 rfl ?_
      refine gX_iloadn dX12_walk_77 rfl ?_
      refine gX_iloadn dX12_walk_78 rfl ?_
      refine gX_virt (J := iX12_walkOn) (av := [gi b, gi D]) (a := 775) (st := []) dX12_walk_79 lkX12_333 kX12_walkOn vX12_walkOn (gFit_m (by decide)) hM.1 rfl rfl (Nat.le_of_ble_eq_true rfl) (Nat.zero_le _) (Nat.zero_le _) rfl ?_
      refine m_walkS hM hv hw hh hD hH hP hp hpo n0 n1 hN hl (fun V2 a1 a2 a3 a4 a5 => ?_)
      show gX l E _ 82 [some (ga 775), some (gi b), some (gi D), j3] [] (K, R, V2) _ _
      refine gX_goto (tgt := 196) dX12_walk_82 (by decide) ?_
      refine gX_goto (tgt := 20) dX12_walk_196 (by decide) ?_
      exact hk V2 _ _ _ a1 a2 a3 a4 a5
    · exfalso
      omega
set_option maxRecDepth 4000 in
theorem walk_close (hM : mdK K R) (hv : wV V b tx gs n e) (hD : 0 ≤ D ∧ D < 6) (h50 : V 775 50 = D + 1) (hS : V 807 D = SP) (hS0 : 0 ≤ SP) (hG : V 808 D = G) (hG0 : -1 ≤ G ∧ G < 20) (hpo : pI V out) (hl : out.length < 700) (hnone : ∀ r, nxP V b n SP G r → r = -1) (hk : ∀ (V2 : Int → Int → Int) (k2 k3 : Option gV) (bc bs : Nat), pI V2 (ladd 700 out 93) → V2 806 D = V 806 D → V2 807 D = -1 → woF V V2 D → gX l E (gFm E (d + 4) iX12_walk Q) 20 [some (ga 775), some (gi b), k2, k3] [] (K, R, V2) bc bs) : gX l E (gFm E (d + 4) iX12_walk Q) 20 [some (ga 775), some (gi b), j2, j3] [] (K, R, V) bc bs := by
  obtain ⟨hb0, hb1⟩ := hv.2.2.2.2.2.2.1
  refine gX_aloadn dX12_walk_20 rfl ?_
  refine gX_gI 50 dX12_walk_21 fdX12_312 rfl (Or.inl rfl) hM.1 ?_
  rw [h50]
  refine gX_ifle (tgt := 199) dX12_walk_24 (by decide) (fun m1 => ?_) (fun m1 => ?_)
  · exfalso
    omega
  · refine gX_aloadn dX12_walk_27 rfl ?_
    refine gX_gI 50 dX12_walk_28 fdX12_312 rfl (Or.inl rfl) hM.1 ?_
    rw [h50]
    refine gX_iconst dX12_walk_31 ⟨by decide, by decide⟩ ?_
    refine gX_isub dX12_walk_32 ⟨by omega, by omega⟩ ?_
    rw [show D + 1 - 1 = D by omega]
    refine gX_istoren dX12_walk_33 (show (2 : Nat) < 4 from by decide) (ls2 := [some (ga 775), some (gi b), some (gi D), j3]) rfl ?_
    refine gX_aloadn dX12_walk_34 rfl ?_
    refine gX_gR 48 dX12_walk_35 fdX12_108 rfl rfl hM.1 (mR48 hM) ?_
    refine gX_iloadn dX12_walk_38 rfl ?_
    refine gX_iald dX12_walk_39 (mA48 hM) (by omega) (by omega) ?_
    rw [hS]
    refine gX_ifge (tgt := 85) dX12_walk_40 (by decide) (fun m2 => ?_) (fun m2 => ?_)
    · refine gX_aloadn dX12_walk_85 rfl ?_
      refine gX_iloadn dX12_walk_86 rfl ?_
      refine gX_aloadn dX12_walk_87 rfl ?_
      refine gX_gR 48 dX12_walk_88 fdX12_108 rfl rfl hM.1 (mR48 hM) ?_
      refine gX_iloadn dX12_walk_91 rfl ?_
      refine gX_iald dX12_walk_92 (mA48 hM) (by omega) (by omega) ?_
      rw [hS]
      refine gX_aloadn dX12_walk_93 rfl ?_
      refine gX_gR 49 dX12_walk_94 fdX12_111 rfl rfl hM.1 (mR49 hM) ?_
      refine gX_iloadn dX12_walk_97 rfl ?_
      refine gX_iald dX12_walk_98 (mA49 hM) (by omega) (by omega) ?_
      rw [hG]
      refine gX_virt (J := iX12_nextOn) (av := [gi b, gi SP, gi G]) (a := 775) (st := []) dX12_walk_99 lkX12_336 kX12_nextOn vX12_nextOn (gFit_m (by decide)) hM.1 rfl rfl (Nat.le_of_ble_eq_true rfl) (Nat.zero_le _) (Nat.zero_le _) rfl ?_
      refine m_nextOn hM ⟨hb0, hb1⟩ hv.2.2.2.2.1 hv.2.2.2.2.2.1 hG0 (fun r hr => ?_)
      show gX l E _ 102 [some (ga 775), some (gi b), some (gi D), j3] [gi r] (K, R, V) _ _
      refine gX_istoren dX12_walk_102 (show (3 : Nat) < 4 from by decide) (ls2 := [some (ga 775), some (gi b), some (gi D), some (gi r)]) rfl ?_
      have er := hnone r hr
      refine gX_aloadn dX12_walk_103 rfl ?_
      refine gX_gR 49 dX12_walk_104 fdX12_111 rfl rfl hM.1 (mR49 hM) ?_
      refine gX_iloadn dX12_walk_107 rfl ?_
      refine gX_iloadn dX12_walk_108 rfl ?_
      refine gX_iast dX12_walk_109 (mA49 hM) (by omega) (by omega) ?_
      refine gX_iloadn dX12_walk_110 rfl ?_
      refine gX_ifge (tgt := 130) dX12_walk_111 (by decide) (fun m3 => ?_) (fun m3 => ?_)
      · exfalso
        omega
      · refine gX_aloadn dX12_walk_114 rfl ?_
        refine gX_bipush dX12_walk_115 (by decide) ⟨by decide, by decide⟩ ?_
        refine gX_virt (J := iX12_printSign) (av := [gi 93]) (a := 775) (st := []) dX12_walk_117 lkX12_324 kX12_printSign vX12_printSign (gFit_m (by decide)) hM.1 rfl rfl (Nat.le_of_ble_eq_true rfl) (Nat.zero_le _) (Nat.zero_le _) rfl ?_
        refine m_printSign hM (hpo.kept (by rw [gup_ne (by omega)]) (gup_ne (by omega))) hl (fun V2 h2 f2 => ?_)
        show gX l E _ 120 [some (ga 775), some (gi b), some (gi D), some (gi r)] [] (K, R, V2) _ _
        refine gX_aloadn dX12_walk_120 rfl ?_
        refine gX_gR 48 dX12_walk_121 fdX12_108 rfl rfl hM.1 (mR48 hM) ?_
        refine gX_iloadn dX12_walk_124 rfl ?_
        refine gX_iconst dX12_walk_125 ⟨by decide, by decide⟩ ?_
        refine gX_iast dX12_walk_126 (mA48 hM) (by omega) (by omega) ?_
        refine gX_goto (tgt := 196) dX12_walk_127 (by decide) ?_
        refine gX_goto (tgt := 20) dX12_walk_196 (by decide) ?_
        exact hk _ _ _ _ _ (h2.kept (by rw [gup_ne (by omega)]) (gup_ne (by omega))) (by rw [gup_ne (by omega), f2.1 806 (by omega) (by omega), gup_ne (by omega)]) gup_s (((woF.rf.up (by omega) (by omega)).trans f2.wo).up (by omega) (by omega))
    · exfalso
      omega
set_option maxRecDepth 4000 in
theorem walk_ent (hM : mdK K R) (hv : wV V b tx gs n e) (hD : 0 ≤ D ∧ D < 6) (h50 : V 775 50 = D + 1) (hS : V 807 D = SP) (hS0 : 0 ≤ SP) (hG : V 808 D = G) (hG0 : -1 ≤ G ∧ G < 20) (hpo : pI V out) (h5 : D < 5) (hl : out.length + 2 ≤ 700) (hr0 : 0 ≤ r0 ∧ r0 < 20) (hN : V 775 53 = N) (hN0 : 0 ≤ N ∧ N < 20) (hsome : ∀ r, nxP V b n SP G r → r = r0) (hk : ∀ (V2 : Int → Int → Int) (k2 k3 : Option gV) (bc bs : Nat), pI V2 (ladd 700 (ladd 700 out 124) (if V 780 (20 * b + r0) = 0 then 97 else 98)) → V2 775 50 = D + 1 + 1 → V2 775 53 = N + 1 → (∀ k, V2 809 k = if k = N then r0 else V 809 k) → (∀ k, V2 810 k = if k = r0 then N else V 810 k) → (∀ a, 805 ≤ a → a ≤ 808 → ∀ j, j < D → V2 a j = V a j) → V2 805 D = V 805 D → V2 806 D = V 806 D → V2 807 D = V 807 D → V2 808 D = r0 → (V2 805 (D + 1) = r0 ∧ V2 806 (D + 1) = 0 ∧ V2 807 (D + 1) = -1) → wlF V V2 → gX l E (gFm E (d + 4) iX12_walk Q) 20 [some (ga 775), some (gi b), k2, k3] [] (K, R, V2) bc bs) : gX l E (gFm E (d + 4) iX12_walk Q) 20 [some (ga 775), some (gi b), j2, j3] [] (K, R, V) bc bs := by
  obtain ⟨hb0, hb1⟩ := hv.2.2.2.2.2.2.1
  have hl9 := ladd_l (n := 700) (xs := out) (x := 124)
  refine gX_aloadn dX12_walk_20 rfl ?_
  refine gX_gI 50 dX12_walk_21 fdX12_312 rfl (Or.inl rfl) hM.1 ?_
  rw [h50]
  refine gX_ifle (tgt := 199) dX12_walk_24 (by decide) (fun m1 => ?_) (fun m1 => ?_)
  · exfalso
    omega
  · refine gX_aloadn dX12_walk_27 rfl ?_
    refine gX_gI 50 dX12_walk_28 fdX12_312 rfl (Or.inl rfl) hM.1 ?_
    rw [h50]
    refine gX_iconst dX12_walk_31 ⟨by decide, by decide⟩ ?_
    refine gX_isub dX12_walk_32 ⟨by omega, by omega⟩ ?_
    rw [show D + 1 - 1 = D by omega]
    refine gX_istoren dX12_walk_33 (show (2 : Nat) < 4 from by decide) (ls2 := [some (ga 775), some (gi b), some (gi D), j3]) rfl ?_
    refine gX_aloadn dX12_walk_34 rfl ?_
    refine gX_gR 48 dX12_walk_35 fdX12_108 rfl rfl hM.1 (mR48 hM) ?_
    refine gX_iloadn dX12_walk_38 rfl ?_
    refine gX_iald dX12_walk_39 (mA48 hM) (by omega) (by omega) ?_
    rw [hS]
    refine gX_ifge (tgt := 85) dX12_walk_40 (by decide) (fun m2 => ?_) (fun m2 => ?_)
    · refine gX_aloadn dX12_walk_85 rfl ?_
      refine gX_iloadn dX12_walk_86 rfl ?_
      refine gX_aloadn dX12_walk_87 rfl ?_
      refine gX_gR 48 dX12_walk_88 fdX12_108 rfl rfl hM.1 (mR48 hM) ?_
      refine gX_iloadn dX12_walk_91 rfl ?_
      refine gX_iald dX12_walk_92 (mA48 hM) (by omega) (by omega) ?_
      rw [hS]
      refine gX_aloadn dX12_walk_93 rfl ?_
      refine gX_gR 49 dX12_walk_94 fdX12_111 rfl rfl hM.1 (mR49 hM) ?_
      refine gX_iloadn dX12_walk_97 rfl ?_
      refine gX_iald dX12_walk_98 (mA49 hM) (by omega) (by omega) ?_
      rw [hG]
      refine gX_virt (J := iX12_nextOn) (av := [gi b, gi SP, gi G]) (a := 775) (st := []) dX12_walk_99 lkX12_336 kX12_nextOn vX12_nextOn (gFit_m (by decide)) hM.1 rfl rfl (Nat.le_of_ble_eq_true rfl) (Nat.zero_le _) (Nat.zero_le _) rfl ?_
      refine m_nextOn hM ⟨hb0, hb1⟩ hv.2.2.2.2.1 hv.2.2.2.2.2.1 hG0 (fun r hr => ?_)
      show gX l E _ 102 [some (ga 775), some (gi b), some (gi D), j3] [gi r] (K, R, V) _ _
      have er := hsome r hr
      rw [er]
      refine gX_istoren dX12_walk_102 (show (3 : Nat) < 4 from by decide) (ls2 := [some (ga 775), some (gi b), some (gi D), some (gi r0)]) rfl ?_
      refine gX_aloadn dX12_walk_103 rfl ?_
      refine gX_gR 49 dX12_walk_104 fdX12_111 rfl rfl hM.1 (mR49 hM) ?_
      refine gX_iloadn dX12_walk_107 rfl ?_
      refine gX_iloadn dX12_walk_108 rfl ?_
      refine gX_iast dX12_walk_109 (mA49 hM) (by omega) (by omega) ?_
      refine gX_iloadn dX12_walk_110 rfl ?_
      refine gX_ifge (tgt := 130) dX12_walk_111 (by decide) (fun m3 => ?_) (fun m3 => ?_)
      · refine gX_aloadn dX12_walk_130 rfl ?_
        refine gX_bipush dX12_walk_131 (by decide) ⟨by decide, by decide⟩ ?_
        refine gX_virt (J := iX12_printSign) (av := [gi 124]) (a := 775) (st := []) dX12_walk_133 lkX12_324 kX12_printSign vX12_printSign (gFit_m (by decide)) hM.1 rfl rfl (Nat.le_of_ble_eq_true rfl) (Nat.zero_le _) (Nat.zero_le _) rfl ?_
        refine m_printSign hM (hpo.kept (by rw [gup_ne (by omega)]) (gup_ne (by omega))) (by omega) (fun V2 h2 f2 => ?_)
        show gX l E _ 136 [some (ga 775), some (gi b), some (gi D), some (gi r0)] [] (K, R, V2) _ _
        refine gX_aloadn dX12_walk_136 rfl ?_
        refine gX_aloadn dX12_walk_137 rfl ?_
        refine gX_gR 5 dX12_walk_138 fdX12_22 rfl rfl hM.1 (mR5 hM) ?_
        refine gX_bipush dX12_walk_141 (by decide) ⟨by decide, by decide⟩ ?_
        refine gX_iloadn dX12_walk_143 rfl ?_
        refine gX_imul dX12_walk_144 ⟨by omega, by omega⟩ ?_
        refine gX_iloadn dX12_walk_145 rfl ?_
        refine gX_iadd dX12_walk_146 ⟨by omega, by omega⟩ ?_
        refine gX_iald dX12_walk_147 (mA5 hM) (by omega) (by omega) ?_
        rw [show V2 780 (20 * b + r0) = V 780 (20 * b + r0) by rw [f2.1 780 (by omega) (by omega), gup_ne (by omega)]]
        refine gX_ifne (tgt := 156) dX12_walk_148 (by decide) (fun m4 => ?_) (fun m4 => ?_)
        · refine gX_bipush dX12_walk_156 (by decide) ⟨by decide, by decide⟩ ?_
          refine gX_virt (J := iX12_printSign) (av := [gi 98]) (a := 775) (st := []) dX12_walk_158 lkX12_324 kX12_printSign vX12_printSign (gFit_m (by decide)) hM.1 rfl rfl (Nat.le_of_ble_eq_true rfl) (Nat.zero_le _) (Nat.zero_le _) rfl ?_
          refine m_printSign hM h2 (by omega) (fun V3 h3 f3 => ?_)
          show gX l E _ 161 [some (ga 775), some (gi b), some (gi D), some (gi r0)] [] (K, R, V3) _ _
          refine gX_aloadn dX12_walk_161 rfl ?_
          refine gX_gR 51 dX12_walk_162 fdX12_114 rfl rfl hM.1 (mR51 hM) ?_
          refine gX_aloadn dX12_walk_165 rfl ?_
          refine gX_gI 53 dX12_walk_166 fdX12_327 rfl (Or.inl rfl) hM.1 ?_
          have hN3 : V3 775 53 = N := by rw [f3.2 53 (by omega), f2.2 53 (by omega), gup_ne (by omega)]; exact hN
          rw [hN3]
          refine gX_iloadn dX12_walk_169 rfl ?_
          refine gX_iast dX12_walk_170 (mA51 hM) (by omega) (by omega) ?_
          refine gX_aloadn dX12_walk_171 rfl ?_
          refine gX_gR 52 dX12_walk_172 fdX12_117 rfl rfl hM.1 (mR52 hM) ?_
          refine gX_iloadn dX12_walk_175 rfl ?_
          refine gX_aloadn dX12_walk_176 rfl ?_
          refine gX_gI 53 dX12_walk_177 fdX12_327 rfl (Or.inl rfl) hM.1 ?_
          rw [show gup V3 809 N r0 775 53 = N by rw [gup_ne (by omega)]; exact hN3]
          refine gX_iast dX12_walk_180 (mA52 hM) (by omega) (by omega) ?_
          refine gX_aloadn dX12_walk_181 rfl ?_
          refine gX_dup dX12_walk_182 rfl ?_
          refine gX_gI 53 dX12_walk_183 fdX12_327 rfl (Or.inl rfl) hM.1 ?_
          rw [show gup (gup V3 809 N r0) 810 r0 N 775 53 = N by rw [gup_ne (by omega), gup_ne (by omega)]; exact hN3]
          refine gX_iconst dX12_walk_186 ⟨by decide, by decide⟩ ?_
          refine gX_iadd dX12_walk_187 ⟨by omega, by omega⟩ ?_
          refine gX_pI 53 dX12_walk_188 fdX12_327 fpX12_327 rfl (Or.inl rfl) hM.1 ?_
          refine gX_aloadn dX12_walk_191 rfl ?_
          refine gX_iloadn dX12_walk_192 rfl ?_
          refine gX_virt (J := iX12_enter) (av := [gi r0]) (a := 775) (st := []) dX12_walk_193 lkX12_330 kX12_enter vX12_enter (gFit_m (by decide)) hM.1 rfl rfl (Nat.le_of_ble_eq_true rfl) (Nat.zero_le _) (Nat.zero_le _) rfl ?_
          refine m_enter (D := D + 1) hM (by rw [gup_c (Or.inr (by omega)), gup_ne (by omega), gup_ne (by omega), f3.2 50 (by omega), f2.2 50 (by omega), gup_ne (by omega)]; exact h50) (by omega) ?_
          show gX l E _ 196 [some (ga 775), some (gi b), some (gi D), some (gi r0)] [] (K, R, gup (gup (gup (gup (gup (gup (gup (gup V3 809 N r0) 810 r0 N) 775 53 (N + 1)) 805 (D + 1) r0) 806 (D + 1) 0) 807 (D + 1) (-1)) 808 (D + 1) (-1)) 775 50 (D + 1 + 1)) _ _
          refine gX_goto (tgt := 20) dX12_walk_196 (by decide) ?_
          have hpi : pI V3 (ladd 700 (ladd 700 out 124) (if V 780 (20 * b + r0) = 0 then 97 else 98)) := by
            first
            | (rw [if_pos (by assumption)]; exact h3)
            | (rw [if_neg (by assumption)]; exact h3)
          have e3 : ∀ a, a ≠ 775 → a ≠ 811 → V3 a = gup V 808 D r0 a := fun a a1 a2 => (f3.1 a a1 a2).trans (f2.1 a a1 a2)
          have e4 : ∀ k, k ≠ 55 → V3 775 k = V 775 k := fun k hk => (f3.2 k hk).trans ((f2.2 k hk).trans (by rw [gup_ne (by omega)]))
          refine hk _ _ _ _ _ (hpi.kept ?_ ?_) ?_ ?_ ?_ ?_ ?_ ?_ ?_ ?_ ?_ ?_ ?_
          · rw [gup_c (Or.inr (by omega)), gup_ne (by omega), gup_ne (by omega), gup_ne (by omega), gup_ne (by omega), gup_c (Or.inr (by omega)), gup_ne (by omega), gup_ne (by omega)]
          · repeat rw [gup_ne (by omega)]
          · exact gup_s
          · rw [gup_c (Or.inr (by omega)), gup_ne (by omega), gup_ne (by omega), gup_ne (by omega), gup_ne (by omega)]; exact gup_s
          · intro k
            rw [gup_ne (by omega), gup_ne (by omega), gup_ne (by omega), gup_ne (by omega), gup_ne (by omega), gup_ne (by omega), gup_ne (by omega)]
            by_cases c : k = N
            · rw [if_pos c, c]; exact gup_s
            · rw [if_neg c, gup_c (Or.inr c), e3 809 (by omega) (by omega), gup_ne (by omega)]
          · intro k
            rw [gup_ne (by omega), gup_ne (by omega), gup_ne (by omega), gup_ne (by omega), gup_ne (by omega), gup_ne (by omega)]
            by_cases c : k = r0
            · rw [if_pos c, c]; exact gup_s
            · rw [if_neg c, gup_c (Or.inr c), gup_ne (by omega), e3 810 (by omega) (by omega), gup_ne (by omega)]
          · intro a a1 a2 j hj
            rw [gup_ne (by omega), gup_c (Or.inr (by omega)), gup_c (Or.inr (by omega)), gup_c (Or.inr (by omega)), gup_c (Or.inr (by omega)), gup_ne (by omega), gup_ne (by omega), gup_ne (by omega), e3 a (by omega) (by omega), gup_c (Or.inr (by omega))]
          · rw [gup_ne (by omega), gup_ne (by omega), gup_ne (by omega), gup_ne (by omega), gup_c (Or.inr (by omega)), gup_ne (by omega), gup_ne (by omega), gup_ne (by omega), e3 805 (by omega) (by omega), gup_ne (by omega)]
          · rw [gup_ne (by omega), gup_ne (by omega), gup_ne (by omega), gup_c (Or.inr (by omega)), gup_ne (by omega), gup_ne (by omega), gup_ne (by omega), gup_ne (by omega), e3 806 (by omega) (by omega), gup_ne (by omega)]
          · rw [gup_ne (by omega), gup_ne (by omega), gup_c (Or.inr (by omega)), gup_ne (by omega), gup_ne (by omega), gup_ne (by omega), gup_ne (by omega), gup_ne (by omega), e3 807 (by omega) (by omega), gup_ne (by omega)]
          · rw [gup_ne (by omega), gup_c (Or.inr (by omega)), gup_ne (by omega), gup_ne (by omega), gup_ne (by omega), gup_ne (by omega), gup_ne (by omega), gup_ne (by omega), e3 808 (by omega) (by omega)]; exact gup_s
          · refine ⟨?_, ?_, ?_⟩
            · rw [gup_ne (by omega), gup_ne (by omega), gup_ne (by omega), gup_ne (by omega)]; exact gup_s
            · rw [gup_ne (by omega), gup_ne (by omega), gup_ne (by omega)]; exact gup_s
            · rw [gup_ne (by omega), gup_ne (by omega)]; exact gup_s
          · have w3 : wlF V V3 := (((wlF.rf.u (by omega) (by omega)).trans f2.wl).trans f3.wl)
            exact ((((((((w3.u (by omega) (by omega)).u (by omega) (by omega)).uf (by omega)).u (by omega) (by omega)).u (by omega) (by omega)).u (by omega) (by omega)).u (by omega) (by omega)).uf (by omega))
        · refine gX_bipush dX12_walk_151 (by decide) ⟨by decide, by decide⟩ ?_
          refine gX_goto (tgt := 158) dX12_walk_153 (by decide) ?_
          refine gX_virt (J := iX12_printSign) (av := [gi 97]) (a := 775) (st := []) dX12_walk_158 lkX12_324 kX12_printSign vX12_printSign (gFit_m (by decide)) hM.1 rfl rfl (Nat.le_of_ble_eq_true rfl) (Nat.zero_le _) (Nat.zero_le _) rfl ?_
          refine m_printSign hM h2 (by omega) (fun V3 h3 f3 => ?_)
          show gX l E _ 161 [some (ga 775), some (gi b), some (gi D), some (gi r0)] [] (K, R, V3) _ _
          refine gX_aloadn dX12_walk_161 rfl ?_
          refine gX_gR 51 dX12_walk_162 fdX12_114 rfl rfl hM.1 (mR51 hM) ?_
          refine gX_aloadn dX12_walk_165 rfl ?_
          refine gX_gI 53 dX12_walk_166 fdX12_327 rfl (Or.inl rfl) hM.1 ?_
          have hN3 : V3 775 53 = N := by rw [f3.2 53 (by omega), f2.2 53 (by omega), gup_ne (by omega)]; exact hN
          rw [hN3]
          refine gX_iloadn dX12_walk_169 rfl ?_
          refine gX_iast dX12_walk_170 (mA51 hM) (by omega) (by omega) ?_
          refine gX_aloadn dX12_walk_171 rfl ?_
          refine gX_gR 52 dX12_walk_172 fdX12_117 rfl rfl hM.1 (mR52 hM) ?_
          refine gX_iloadn dX12_walk_175 rfl ?_
          refine gX_aloadn dX12_walk_176 rfl ?_
          refine gX_gI 53 dX12_walk_177 fdX12_327 rfl (Or.inl rfl) hM.1 ?_
          rw [show gup V3 809 N r0 775 53 = N by rw [gup_ne (by omega)]; exact hN3]
          refine gX_iast dX12_walk_180 (mA52 hM) (by omega) (by omega) ?_
          refine gX_aloadn dX12_walk_181 rfl ?_
          refine gX_dup dX12_walk_182 rfl ?_
          refine gX_gI 53 dX12_walk_183 fdX12_327 rfl (Or.inl rfl) hM.1 ?_
          rw [show gup (gup V3 809 N r0) 810 r0 N 775 53 = N by rw [gup_ne (by omega), gup_ne (by omega)]; exact hN3]
          refine gX_iconst dX12_walk_186 ⟨by decide, by decide⟩ ?_
          refine gX_iadd dX12_walk_187 ⟨by omega, by omega⟩ ?_
          refine gX_pI 53 dX12_walk_188 fdX12_327 fpX12_327 rfl (Or.inl rfl) hM.1 ?_
          refine gX_aloadn dX12_walk_191 rfl ?_
          refine gX_iloadn dX12_walk_192 rfl ?_
          refine gX_virt (J := iX12_enter) (av := [gi r0]) (a := 775) (st := []) dX12_walk_193 lkX12_330 kX12_enter vX12_enter (gFit_m (by decide)) hM.1 rfl rfl (Nat.le_of_ble_eq_true rfl) (Nat.zero_le _) (Nat.zero_le _) rfl ?_
          refine m_enter (D := D + 1) hM (by rw [gup_c (Or.inr (by omega)), gup_ne (by omega), gup_ne (by omega), f3.2 50 (by omega), f2.2 50 (by omega), gup_ne (by omega)]; exact h50) (by omega) ?_
          show gX l E _ 196 [some (ga 775), some (gi b), some (gi D), some (gi r0)] [] (K, R, gup (gup (gup (gup (gup (gup (gup (gup V3 809 N r0) 810 r0 N) 775 53 (N + 1)) 805 (D + 1) r0) 806 (D + 1) 0) 807 (D + 1) (-1)) 808 (D + 1) (-1)) 775 50 (D + 1 + 1)) _ _
          refine gX_goto (tgt := 20) dX12_walk_196 (by decide) ?_
          have hpi : pI V3 (ladd 700 (ladd 700 out 124) (if V 780 (20 * b + r0) = 0 then 97 else 98)) := by
            first
            | (rw [if_pos (by assumption)]; exact h3)
            | (rw [if_neg (by assumption)]; exact h3)
          have e3 : ∀ a, a ≠ 775 → a ≠ 811 → V3 a = gup V 808 D r0 a := fun a a1 a2 => (f3.1 a a1 a2).trans (f2.1 a a1 a2)
          have e4 : ∀ k, k ≠ 55 → V3 775 k = V 775 k := fun k hk => (f3.2 k hk).trans ((f2.2 k hk).trans (by rw [gup_ne (by omega)]))
          refine hk _ _ _ _ _ (hpi.kept ?_ ?_) ?_ ?_ ?_ ?_ ?_ ?_ ?_ ?_ ?_ ?_ ?_
          · rw [gup_c (Or.inr (by omega)), gup_ne (by omega), gup_ne (by omega), gup_ne (by omega), gup_ne (by omega), gup_c (Or.inr (by omega)), gup_ne (by omega), gup_ne (by omega)]
          · repeat rw [gup_ne (by omega)]
          · exact gup_s
          · rw [gup_c (Or.inr (by omega)), gup_ne (by omega), gup_ne (by omega), gup_ne (by omega), gup_ne (by omega)]; exact gup_s
          · intro k
            rw [gup_ne (by omega), gup_ne (by omega), gup_ne (by omega), gup_ne (by omega), gup_ne (by omega), gup_ne (by omega), gup_ne (by omega)]
            by_cases c : k = N
            · rw [if_pos c, c]; exact gup_s
            · rw [if_neg c, gup_c (Or.inr c), e3 809 (by omega) (by omega), gup_ne (by omega)]
          · intro k
            rw [gup_ne (by omega), gup_ne (by omega), gup_ne (by omega), gup_ne (by omega), gup_ne (by omega), gup_ne (by omega)]
            by_cases c : k = r0
            · rw [if_pos c, c]; exact gup_s
            · rw [if_neg c, gup_c (Or.inr c), gup_ne (by omega), e3 810 (by omega) (by omega), gup_ne (by omega)]
          · intro a a1 a2 j hj
            rw [gup_ne (by omega), gup_c (Or.inr (by omega)), gup_c (Or.inr (by omega)), gup_c (Or.inr (by omega)), gup_c (Or.inr (by omega)), gup_ne (by omega), gup_ne (by omega), gup_ne (by omega), e3 a (by omega) (by omega), gup_c (Or.inr (by omega))]
          · rw [gup_ne (by omega), gup_ne (by omega), gup_ne (by omega), gup_ne (by omega), gup_c (Or.inr (by omega)), gup_ne (by omega), gup_ne (by omega), gup_ne (by omega), e3 805 (by omega) (by omega), gup_ne (by omega)]
          · rw [gup_ne (by omega), gup_ne (by omega), gup_ne (by omega), gup_c (Or.inr (by omega)), gup_ne (by omega), gup_ne (by omega), gup_ne (by omega), gup_ne (by omega), e3 806 (by omega) (by omega), gup_ne (by omega)]
          · rw [gup_ne (by omega), gup_ne (by omega), gup_c (Or.inr (by omega)), gup_ne (by omega), gup_ne (by omega), gup_ne (by omega), gup_ne (by omega), gup_ne (by omega), e3 807 (by omega) (by omega), gup_ne (by omega)]
          · rw [gup_ne (by omega), gup_c (Or.inr (by omega)), gup_ne (by omega), gup_ne (by omega), gup_ne (by omega), gup_ne (by omega), gup_ne (by omega), gup_ne (by omega), e3 808 (by omega) (by omega)]; exact gup_s
          · refine ⟨?_, ?_, ?_⟩
            · rw [gup_ne (by omega), gup_ne (by omega), gup_ne (by omega), gup_ne (by omega)]; exact gup_s
            · rw [gup_ne (by omega), gup_ne (by omega), gup_ne (by omega)]; exact gup_s
            · rw [gup_ne (by omega), gup_ne (by omega)]; exact gup_s
          · have w3 : wlF V V3 := (((wlF.rf.u (by omega) (by omega)).trans f2.wl).trans f3.wl)
            exact ((((((((w3.u (by omega) (by omega)).u (by omega) (by omega)).uf (by omega)).u (by omega) (by omega)).u (by omega) (by omega)).u (by omega) (by omega)).u (by omega) (by omega)).uf (by omega))
      · exfalso
        omega
    · exfalso
      omega
end MD31
