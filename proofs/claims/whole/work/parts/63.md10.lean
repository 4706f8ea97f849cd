/-! The reference: explained, steps, round. Written by wip/whole/tools/mk_md10.py. -/
theorem glor_0 {x : Int} (h : in64 x) : glor x 0 = x := lb_ext (glor_in _ _) h (fun k _ _ => by rw [lb_or, lb_0, Bool.or_false])
def nwS (tx : List Int) (gs : List gG) (seen fro : Int) : Int := gland (expl tx gs fro) (glxor seen (-1))
theorem nwS_b {tx : List Int} {gs : List gG} {seen fro k : Int} (k0 : 0 ≤ k) (k1 : k < 64) : lb (nwS tx gs seen fro) k = (lb (expl tx gs fro) k && !lb seen k) := by
  unfold nwS
  rw [lb_and, lb_not k0 k1]
theorem stF_s {tx : List Int} {gs : List gG} {v k seen fro : Int} {m : Nat} (hf : fro ≠ 0) (hv0 : 0 ≤ v) (hv1 : v < 64) : stF tx gs v (m + 1) k seen fro = if lb (nwS tx gs seen fro) v = true then k else stF tx gs v m (k + 1) (glor seen (nwS tx gs seen fro)) (nwS tx gs seen fro) := by
  show (if fro = 0 then -1 else if gland (glushr (nwS tx gs seen fro) v) 1 = 1 then k else _) = _
  rw [if_neg hf, glushr_b hv0 hv1]
  by_cases c : lb (nwS tx gs seen fro) v = true
  · rw [if_pos c, if_pos rfl, if_pos c]
  · rw [if_neg c, if_neg (by decide), if_neg c]
    rfl
theorem stF_0 {tx : List Int} {gs : List gG} {v k seen : Int} : ∀ m : Nat, stF tx gs v m k seen 0 = -1
  | 0 => rfl
  | _ + 1 => if_pos rfl
theorem lb_nz {x : Int} (h : in64 x) (hx : x ≠ 0) : ∃ k : Int, 0 ≤ k ∧ k < 64 ∧ lb x k = true := by
  refine Classical.byContradiction fun z => hx (lb_ext h ⟨by decide, by decide⟩ (fun k k0 k1 => ?_))
  rw [lb_0]
  cases hb : lb x k with
  | false => rfl
  | true => exact absurd ⟨k, k0, k1, hb⟩ z
section MD10
variable {l : Launch} {E : gE} {d : Nat} {K : List gK} {R V : Int → Int → Int} {a b i w v g : Int} {Q : gQ} {S : gbS} {tx : List Int} {gs : List gG}
set_option maxRecDepth 4000 in
theorem m_explaining0 (hM : mdK K R) (hb : 0 ≤ b ∧ b ≤ 10) (hk : rbIs V b tx gs) (hs : rsIs V b tx gs) (hok : bkOk tx gs) (hQ : Q (some (gl (exW tx gs w gs.length 0 0))) (K, R, V)) : gC l E (d + 3) iX12_explaining [ga 775, gi b, gi w] (K, R, V) Q := by
  refine gC_of kX12_explaining (ls := [some (ga 775), some (gi b), some (gi w), none, none, none, none, none, none]) rfl (Nat.le_of_ble_eq_true rfl) ?_
  have h20 := hk.2.2.2.2.1
  have h40 := hk.2.1
  have lp : ∀ (jj : Nat) (g : Int) (x : Int) (j6 : Option gV) (j7 : Option gV) (j8 : Option gV) (bc bs : Nat), (gs.length : Int) - g < (jj : Int) → 0 ≤ g → g ≤ gs.length → in64 x → (Q (some (gl (exW tx gs w (gs.length - g.toNat) g x))) (K, R, V)) → gX l E (gFm E (d + 3) iX12_explaining Q) 5 [some (ga 775), some (gi b), some (gi w), some (gl x), none, some (gi g), j6, j7, j8] [] (K, R, V) bc bs := by
    intro jj
    induction jj with
    | zero =>
      intro g x j6 j7 j8 bc bs hj q0 q1 hx9 hq2
      exfalso; omega
    | succ jj ih =>
      intro g x j6 j7 j8 bc bs hj q0 q1 hx9 hq2
      refine gX_iload dX12_explaining_5 rfl ?_
      refine gX_aloadn dX12_explaining_7 rfl ?_
      refine gX_gR 4 dX12_explaining_8 fdX12_19 rfl rfl hM.1 (mR4 hM) ?_
      refine gX_iloadn dX12_explaining_11 rfl ?_
      refine gX_iald dX12_explaining_12 (mA4 hM) (by omega) (by omega) ?_
      rw [hk.2.2.2.1]
      refine gX_icmpge (tgt := 135) dX12_explaining_13 (by decide) (fun w1 => ?_) (fun w1 => ?_)
      · refine gX_lloadn dX12_explaining_135 rfl ?_
        refine gX_lret dX12_explaining_136 rfl ?_
        have ei : gs.length - g.toNat = 0 := by omega
        rw [ei] at hq2
        exact hq2
      · have hgl := hk.gl (g := g) (by omega) (by omega)
        have hso := hok.sp (g := g) (by omega) (by omega)
        have hr8 := hgl.2.2.2.1
        obtain ⟨x1, x2, x3⟩ := hk.hs hso.2.1.rg
        have hb0 := hso.2.2.1
        have hb1 := hso.2.2.2.1
        have hb2 := hso.2.2.2.2
        have hrg := hso.2.1.rg
        refine gX_bipush dX12_explaining_16 (by decide) ⟨by decide, by decide⟩ ?_
        refine gX_iloadn dX12_explaining_18 rfl ?_
        refine gX_imul dX12_explaining_19 ⟨by omega, by omega⟩ ?_
        refine gX_iload dX12_explaining_20 rfl ?_
        refine gX_iadd dX12_explaining_22 ⟨by omega, by omega⟩ ?_
        refine gX_istore dX12_explaining_23 (show (6 : Nat) < 9 from by decide) (ls2 := [some (ga 775), some (gi b), some (gi w), some (gl x), none, some (gi g), some (gi ((20 * b) + g)), j7, j8]) rfl ?_
        refine gX_aloadn dX12_explaining_25 rfl ?_
        refine gX_iloadn dX12_explaining_26 rfl ?_
        refine gX_aloadn dX12_explaining_27 rfl ?_
        refine gX_gR 6 dX12_explaining_28 fdX12_25 rfl rfl hM.1 (mR6 hM) ?_
        refine gX_iload dX12_explaining_31 rfl ?_
        refine gX_iald dX12_explaining_33 (mA6 hM) (by omega) (by omega) ?_
        rw [hgl.2.1]
        refine gX_aloadn dX12_explaining_34 rfl ?_
        refine gX_gR 7 dX12_explaining_35 fdX12_28 rfl rfl hM.1 (mR7 hM) ?_
        refine gX_iload dX12_explaining_38 rfl ?_
        refine gX_iald dX12_explaining_40 (mA7 hM) (by omega) (by omega) ?_
        refine gX_virt (J := iX12_firstOf) (av := [gi b, gi ((gq gs g).2.1), gi (V 782 ((20 * b) + g))]) (a := 775) (st := []) dX12_explaining_41 lkX12_359 kX12_firstOf vX12_firstOf (gFit_m (by decide)) hM.1 rfl rfl (Nat.le_of_ble_eq_true rfl) (Nat.zero_le _) (Nat.zero_le _) rfl ?_
        refine m_firstOf hM hb hk hs (by omega) (by omega) hso ?_
        show gX l E _ 44 [some (ga 775), some (gi b), some (gi w), some (gl x), none, some (gi g), some (gi ((20 * b) + g)), j7, j8] [gi ((gq gs g).2.2.1)] (K, R, V) _ _
        refine gX_istore dX12_explaining_44 (show (7 : Nat) < 9 from by decide) (ls2 := [some (ga 775), some (gi b), some (gi w), some (gl x), none, some (gi g), some (gi ((20 * b) + g)), some (gi ((gq gs g).2.2.1)), j8]) rfl ?_
        refine gX_aloadn dX12_explaining_46 rfl ?_
        refine gX_iloadn dX12_explaining_47 rfl ?_
        refine gX_aloadn dX12_explaining_48 rfl ?_
        refine gX_gR 6 dX12_explaining_49 fdX12_25 rfl rfl hM.1 (mR6 hM) ?_
        refine gX_iload dX12_explaining_52 rfl ?_
        refine gX_iald dX12_explaining_54 (mA6 hM) (by omega) (by omega) ?_
        rw [hgl.2.1]
        refine gX_aloadn dX12_explaining_55 rfl ?_
        refine gX_gR 7 dX12_explaining_56 fdX12_28 rfl rfl hM.1 (mR7 hM) ?_
        refine gX_iload dX12_explaining_59 rfl ?_
        refine gX_iald dX12_explaining_61 (mA7 hM) (by omega) (by omega) ?_
        refine gX_virt (J := iX12_lemmaSize) (av := [gi b, gi ((gq gs g).2.1), gi (V 782 ((20 * b) + g))]) (a := 775) (st := []) dX12_explaining_62 lkX12_362 kX12_lemmaSize vX12_lemmaSize (gFit_m (by decide)) hM.1 rfl rfl (Nat.le_of_ble_eq_true rfl) (Nat.zero_le _) (Nat.zero_le _) rfl ?_
        refine m_lemmaSize hM hb hk hs (by omega) (by omega) hso ?_
        show gX l E _ 65 [some (ga 775), some (gi b), some (gi w), some (gl x), none, some (gi g), some (gi ((20 * b) + g)), some (gi ((gq gs g).2.2.1)), j8] [gi (lml (gq gs g))] (K, R, V) _ _
        refine gX_iconst dX12_explaining_65 ⟨by decide, by decide⟩ ?_
        refine gX_icmpne (tgt := 102) dX12_explaining_66 (by decide) (fun w2 => ?_) (fun w2 => ?_)
        · refine gX_iconst dX12_explaining_102 ⟨by decide, by decide⟩ ?_
          refine gX_istore dX12_explaining_103 (show (8 : Nat) < 9 from by decide) (ls2 := [some (ga 775), some (gi b), some (gi w), some (gl x), none, some (gi g), some (gi ((20 * b) + g)), some (gi ((gq gs g).2.2.1)), some (gi 0)]) rfl ?_
          refine gX_lloadn dX12_explaining_105 rfl ?_
          refine gX_iload dX12_explaining_106 rfl ?_
          refine gX_ifeq (tgt := 126) dX12_explaining_108 (by decide) (fun w3 => ?_) (fun w3 => by exfalso; omega)
          refine gX_lconst (x := 0) dX12_explaining_126 (by decide) ⟨by decide, by decide⟩ ?_
          refine gX_lor dX12_explaining_127 ?_
          rw [glor_0 hx9]
          refine gX_lstoren dX12_explaining_128 (show (3 : Nat) + 1 < 9 from by decide) (ls2 := [some (ga 775), some (gi b), some (gi w), some (gl x), none, some (gi g), some (gi ((20 * b) + g)), some (gi ((gq gs g).2.2.1)), some (gi 0)]) rfl ?_
          refine gX_iinc dX12_explaining_129 rfl (show (5 : Nat) < 9 from by decide) ⟨by omega, by omega⟩ (ls2 := [some (ga 775), some (gi b), some (gi w), some (gl x), none, some (gi (g + 1)), some (gi ((20 * b) + g)), some (gi ((gq gs g).2.2.1)), some (gi 0)]) rfl ?_
          refine gX_goto (tgt := 5) dX12_explaining_132 (by decide) ?_
          have ek : gs.length - g.toNat = (gs.length - (g + 1).toNat) + 1 := by omega
          have e1 : exW tx gs w (gs.length - g.toNat) g x = exW tx gs w (gs.length - (g + 1).toNat) (g + 1) x := by
            rw [ek]
            show exW tx gs w _ _ (if _ then _ else _) = _
            rw [if_neg (by rintro ⟨z1, z2, z3⟩; omega)]
          rw [e1] at hq2
          exact ih (g + 1) _ _ _ _ _ _ (by omega) (by omega) (by omega) hx9 hq2
        · refine gX_aloadn dX12_explaining_69 rfl ?_
          refine gX_iloadn dX12_explaining_70 rfl ?_
          refine gX_aloadn dX12_explaining_71 rfl ?_
          refine gX_gR 6 dX12_explaining_72 fdX12_25 rfl rfl hM.1 (mR6 hM) ?_
          refine gX_iload dX12_explaining_75 rfl ?_
          refine gX_iald dX12_explaining_77 (mA6 hM) (by omega) (by omega) ?_
          rw [hgl.2.1]
          refine gX_iload dX12_explaining_78 rfl ?_
          refine gX_virt (J := iX12_wordAt) (av := [gi b, gi ((gq gs g).2.1), gi ((gq gs g).2.2.1)]) (a := 775) (st := []) dX12_explaining_80 lkX12_318 kX12_wordAt vX12_wordAt (gFit_m (by decide)) hM.1 rfl rfl (Nat.le_of_ble_eq_true rfl) (Nat.zero_le _) (Nat.zero_le _) rfl ?_
          refine m_wordAt hM hb (by omega) ⟨by omega, by omega⟩ (fun z => by have := x3 z; omega) ?_
          show gX l E _ 83 [some (ga 775), some (gi b), some (gi w), some (gl x), none, some (gi g), some (gi ((20 * b) + g)), some (gi ((gq gs g).2.2.1)), j8] [gi (wdA V b (gq gs g).2.1 (gq gs g).2.2.1)] (K, R, V) _ _
          rw [hk.wa hrg hb0 (by omega)]
          refine gX_iloadn dX12_explaining_83 rfl ?_
          refine gX_icmpne (tgt := 102) dX12_explaining_84 (by decide) (fun w4 => ?_) (fun w4 => ?_)
          · refine gX_iconst dX12_explaining_102 ⟨by decide, by decide⟩ ?_
            refine gX_istore dX12_explaining_103 (show (8 : Nat) < 9 from by decide) (ls2 := [some (ga 775), some (gi b), some (gi w), some (gl x), none, some (gi g), some (gi ((20 * b) + g)), some (gi ((gq gs g).2.2.1)), some (gi 0)]) rfl ?_
            refine gX_lloadn dX12_explaining_105 rfl ?_
            refine gX_iload dX12_explaining_106 rfl ?_
            refine gX_ifeq (tgt := 126) dX12_explaining_108 (by decide) (fun w5 => ?_) (fun w5 => by exfalso; omega)
            refine gX_lconst (x := 0) dX12_explaining_126 (by decide) ⟨by decide, by decide⟩ ?_
            refine gX_lor dX12_explaining_127 ?_
            rw [glor_0 hx9]
            refine gX_lstoren dX12_explaining_128 (show (3 : Nat) + 1 < 9 from by decide) (ls2 := [some (ga 775), some (gi b), some (gi w), some (gl x), none, some (gi g), some (gi ((20 * b) + g)), some (gi ((gq gs g).2.2.1)), some (gi 0)]) rfl ?_
            refine gX_iinc dX12_explaining_129 rfl (show (5 : Nat) < 9 from by decide) ⟨by omega, by omega⟩ (ls2 := [some (ga 775), some (gi b), some (gi w), some (gl x), none, some (gi (g + 1)), some (gi ((20 * b) + g)), some (gi ((gq gs g).2.2.1)), some (gi 0)]) rfl ?_
            refine gX_goto (tgt := 5) dX12_explaining_132 (by decide) ?_
            have ek : gs.length - g.toNat = (gs.length - (g + 1).toNat) + 1 := by omega
            have e1 : exW tx gs w (gs.length - g.toNat) g x = exW tx gs w (gs.length - (g + 1).toNat) (g + 1) x := by
              rw [ek]
              show exW tx gs w _ _ (if _ then _ else _) = _
              rw [if_neg (by rintro ⟨z1, z2, z3⟩; omega)]
            rw [e1] at hq2
            exact ih (g + 1) _ _ _ _ _ _ (by omega) (by omega) (by omega) hx9 hq2
          · refine gX_aloadn dX12_explaining_87 rfl ?_
            refine gX_gR 8 dX12_explaining_88 fdX12_31 rfl rfl hM.1 (mR8 hM) ?_
            refine gX_iload dX12_explaining_91 rfl ?_
            refine gX_iald dX12_explaining_93 (mA8 hM) (by omega) (by omega) ?_
            rw [hgl.2.2.1]
            refine gX_iconst dX12_explaining_94 ⟨by decide, by decide⟩ ?_
            refine gX_icmpne (tgt := 102) dX12_explaining_95 (by decide) (fun w6 => ?_) (fun w6 => ?_)
            · refine gX_iconst dX12_explaining_102 ⟨by decide, by decide⟩ ?_
              refine gX_istore dX12_explaining_103 (show (8 : Nat) < 9 from by decide) (ls2 := [some (ga 775), some (gi b), some (gi w), some (gl x), none, some (gi g), some (gi ((20 * b) + g)), some (gi ((gq gs g).2.2.1)), some (gi 0)]) rfl ?_
              refine gX_lloadn dX12_explaining_105 rfl ?_
              refine gX_iload dX12_explaining_106 rfl ?_
              refine gX_ifeq (tgt := 126) dX12_explaining_108 (by decide) (fun w7 => ?_) (fun w7 => by exfalso; omega)
              refine gX_lconst (x := 0) dX12_explaining_126 (by decide) ⟨by decide, by decide⟩ ?_
              refine gX_lor dX12_explaining_127 ?_
              rw [glor_0 hx9]
              refine gX_lstoren dX12_explaining_128 (show (3 : Nat) + 1 < 9 from by decide) (ls2 := [some (ga 775), some (gi b), some (gi w), some (gl x), none, some (gi g), some (gi ((20 * b) + g)), some (gi ((gq gs g).2.2.1)), some (gi 0)]) rfl ?_
              refine gX_iinc dX12_explaining_129 rfl (show (5 : Nat) < 9 from by decide) ⟨by omega, by omega⟩ (ls2 := [some (ga 775), some (gi b), some (gi w), some (gl x), none, some (gi (g + 1)), some (gi ((20 * b) + g)), some (gi ((gq gs g).2.2.1)), some (gi 0)]) rfl ?_
              refine gX_goto (tgt := 5) dX12_explaining_132 (by decide) ?_
              have ek : gs.length - g.toNat = (gs.length - (g + 1).toNat) + 1 := by omega
              have e1 : exW tx gs w (gs.length - g.toNat) g x = exW tx gs w (gs.length - (g + 1).toNat) (g + 1) x := by
                rw [ek]
                show exW tx gs w _ _ (if _ then _ else _) = _
                rw [if_neg (by rintro ⟨z1, z2, z3⟩; omega)]
              rw [e1] at hq2
              exact ih (g + 1) _ _ _ _ _ _ (by omega) (by omega) (by omega) hx9 hq2
            · refine gX_iconst dX12_explaining_98 ⟨by decide, by decide⟩ ?_
              refine gX_goto (tgt := 103) dX12_explaining_99 (by decide) ?_
              refine gX_istore dX12_explaining_103 (show (8 : Nat) < 9 from by decide) (ls2 := [some (ga 775), some (gi b), some (gi w), some (gl x), none, some (gi g), some (gi ((20 * b) + g)), some (gi ((gq gs g).2.2.1)), some (gi 1)]) rfl ?_
              refine gX_lloadn dX12_explaining_105 rfl ?_
              refine gX_iload dX12_explaining_106 rfl ?_
              refine gX_ifeq (tgt := 126) dX12_explaining_108 (by decide) (fun w8 => by exfalso; omega) (fun w8 => ?_)
              refine gX_lconst (x := 1) dX12_explaining_111 (by decide) ⟨by decide, by decide⟩ ?_
              refine gX_aloadn dX12_explaining_112 rfl ?_
              refine gX_gR 9 dX12_explaining_113 fdX12_34 rfl rfl hM.1 (mR9 hM) ?_
              refine gX_bipush dX12_explaining_116 (by decide) ⟨by decide, by decide⟩ ?_
              refine gX_iload dX12_explaining_118 rfl ?_
              refine gX_imul dX12_explaining_120 ⟨by omega, by omega⟩ ?_
              refine gX_iald dX12_explaining_121 (mA9 hM) (by omega) (by omega) ?_
              rw [show 8 * (20 * b + g) = 8 * (20 * b + g) + 0 by omega, hgl.rw (by omega) (by omega)]
              refine gX_lshl dX12_explaining_122 ?_
              refine gX_goto (tgt := 127) dX12_explaining_123 (by decide) ?_
              refine gX_lor dX12_explaining_127 ?_
              refine gX_lstoren dX12_explaining_128 (show (3 : Nat) + 1 < 9 from by decide) (ls2 := [some (ga 775), some (gi b), some (gi w), some (gl (glor x (glshl 1 (lat (gq gs g).2.2.2.2.2 0)))), none, some (gi g), some (gi ((20 * b) + g)), some (gi ((gq gs g).2.2.1)), some (gi 1)]) rfl ?_
              refine gX_iinc dX12_explaining_129 rfl (show (5 : Nat) < 9 from by decide) ⟨by omega, by omega⟩ (ls2 := [some (ga 775), some (gi b), some (gi w), some (gl (glor x (glshl 1 (lat (gq gs g).2.2.2.2.2 0)))), none, some (gi (g + 1)), some (gi ((20 * b) + g)), some (gi ((gq gs g).2.2.1)), some (gi 1)]) rfl ?_
              refine gX_goto (tgt := 5) dX12_explaining_132 (by decide) ?_
              have ek : gs.length - g.toNat = (gs.length - (g + 1).toNat) + 1 := by omega
              have e1 : exW tx gs w (gs.length - g.toNat) g x = exW tx gs w (gs.length - (g + 1).toNat) (g + 1) (glor x (glshl 1 (lat (gq gs g).2.2.2.2.2 0))) := by
                rw [ek]
                show exW tx gs w _ _ (if _ then _ else _) = _
                rw [if_pos ⟨by omega, by omega, by omega⟩]
              rw [e1] at hq2
              exact ih (g + 1) _ _ _ _ _ _ (by omega) (by omega) (by omega) (glor_in _ _) hq2
  refine gX_lconst (x := 0) dX12_explaining_0 (by decide) ⟨by decide, by decide⟩ ?_
  refine gX_lstoren dX12_explaining_1 (show (3 : Nat) + 1 < 9 from by decide) (ls2 := [some (ga 775), some (gi b), some (gi w), some (gl 0), none, none, none, none, none]) rfl ?_
  refine gX_iconst dX12_explaining_2 ⟨by decide, by decide⟩ ?_
  refine gX_istore dX12_explaining_3 (show (5 : Nat) < 9 from by decide) (ls2 := [some (ga 775), some (gi b), some (gi w), some (gl 0), none, some (gi 0), none, none, none]) rfl ?_
  exact lp (gs.length + 1) 0 0 none none none _ _ (by omega) (by omega) (by omega) ⟨by decide, by decide⟩ hQ
theorem m_explaining (hM : mdK K R) (hb : 0 ≤ b ∧ b ≤ 10) (hk : rbIs V b tx gs) (hs : rsIs V b tx gs) (hok : bkOk tx gs) (w0 : 0 ≤ w) (w1 : w < 64) (hQ : Q (some (gl (expl tx gs (glshl 1 w)))) (K, R, V)) : gC l E (d + 3) iX12_explaining [ga 775, gi b, gi w] (K, R, V) Q := m_explaining0 hM hb hk hs hok (by rw [exW_expl hok.wq w0 w1]; exact hQ)
set_option maxRecDepth 4000 in
theorem m_explained (hM : mdK K R) (hS : mdIs V S) (hO : ∀ b : Int, 0 ≤ b → b < S.1.length → bkOk (gbq S b).1 (gbq S b).2.1) (hQ : ∀ V', qFr V V' → Q (some (gl (aExpl S b w))) (K, R, V')) : gC l E (d + 4) iX12_explained [ga 775, gi b, gi w] (K, R, V) Q := by
  refine gC_of kX12_explained (ls := [some (ga 775), some (gi b), some (gi w)]) rfl (Nat.le_of_ble_eq_true rfl) ?_
  have hn0 := hS.1
  have hn1 := hS.2.1
  refine gX_aloadn dX12_explained_0 rfl ?_
  refine gX_iloadn dX12_explained_1 rfl ?_
  refine gX_virt (J := iX12_isBook) (av := [gi b]) (a := 775) (st := []) dX12_explained_2 lkX12_371 kX12_isBook vX12_isBook (gFit_m (by decide)) hM.1 rfl rfl (Nat.le_of_ble_eq_true rfl) (Nat.zero_le _) (Nat.zero_le _) rfl ?_
  refine m_isBook hM hS.1 hS.2.1 ?_
  show gX l E _ 5 [some (ga 775), some (gi b), some (gi w)] [gi (b2i (inR b 0 ((S.1.length : Int) - 1)))] (K, R, V) _ _
  refine gX_ifne (tgt := 12) dX12_explained_5 (by decide) (fun w1 => ?_) (fun w1 => ?_)
  · have w1 := inR_1 w1
    have hr : 0 ≤ b ∧ b < S.1.length := ⟨by omega, by omega⟩
    obtain ⟨q, eq⟩ : ∃ q, q = gbq S b := ⟨_, rfl⟩
    have hk := hS.2.2.2.1 b hr.1 hr.2
    have hok := hO b hr.1 hr.2
    rw [← eq] at hk hok
    have hb : 0 ≤ b ∧ b ≤ 10 := ⟨by omega, by omega⟩
    have h20 := hk.1.2.2.2.2.1
    have h40 := hk.1.2.1
    refine gX_iloadn dX12_explained_12 rfl ?_
    refine gX_stat (J := iX12_isWord) (av := [gi w]) (st := []) dX12_explained_13 lkX12_398 kX12_isWord sX12_isWord (gFit_m (by decide)) rfl (Nat.le_of_ble_eq_true rfl) (Nat.zero_le _) (Nat.zero_le _) rfl ?_
    refine m_isWord ?_
    show gX l E _ 16 [some (ga 775), some (gi b), some (gi w)] [gi (b2i (inR w 0 63))] (K, R, V) _ _
    refine gX_ifeq (tgt := 28) dX12_explained_16 (by decide) (fun w2 => ?_) (fun w2 => ?_)
    · have w2 := inR_0 w2
      refine gX_ldc2 (x := -1002) dX12_explained_28 clX12_464 (by decide) ⟨by decide, by decide⟩ ?_
      refine gX_lret dX12_explained_31 rfl ?_
      have ea : aExpl S b w = -1002 := by
        unfold aExpl
        rw [if_pos hr, if_neg (by omega)]
      rw [ea] at hQ
      exact hQ V qFr.rf
    · have w2 := inR_1 w2
      refine gX_aloadn dX12_explained_19 rfl ?_
      refine gX_iloadn dX12_explained_20 rfl ?_
      refine gX_iloadn dX12_explained_21 rfl ?_
      refine gX_virt (J := iX12_explaining) (av := [gi b, gi w]) (a := 775) (st := []) dX12_explained_22 lkX12_460 kX12_explaining vX12_explaining (gFit_m (by decide)) hM.1 rfl rfl (Nat.le_of_ble_eq_true rfl) (Nat.zero_le _) (Nat.zero_le _) rfl ?_
      refine m_explaining hM hb hk.1 hk.2.1 hok (by omega) (by omega) ?_
      show gX l E _ 25 [some (ga 775), some (gi b), some (gi w)] [gl (expl q.1 q.2.1 (glshl 1 w))] (K, R, V) _ _
      refine gX_goto (tgt := 31) dX12_explained_25 (by decide) ?_
      refine gX_lret dX12_explained_31 rfl ?_
      have ea : aExpl S b w = expl q.1 q.2.1 (glshl 1 w) := by
        unfold aExpl
        rw [if_pos hr, ← eq, if_pos (by omega)]
      rw [ea] at hQ
      exact hQ V qFr.rf
  · have w1 := inR_0 w1
    refine gX_ldc2 (x := -1001) dX12_explained_8 clX12_458 (by decide) ⟨by decide, by decide⟩ ?_
    refine gX_lret dX12_explained_11 rfl ?_
    have ea : aExpl S b w = -1001 := by
      unfold aExpl
      rw [if_neg (by omega)]
    rw [ea] at hQ
    exact hQ V qFr.rf
set_option maxRecDepth 4000 in
theorem m_stepsOf (hM : mdK K R) (hb : 0 ≤ b ∧ b ≤ 10) (hk : rbIs V b tx gs) (hs : rsIs V b tx gs) (hok : bkOk tx gs) (w0 : 0 ≤ w) (w1 : w ≤ 63) (v0 : 0 ≤ v) (v1 : v ≤ 63) (hQ : Q (some (gi (stps tx gs w v))) (K, R, V)) : gC l E (d + 4) iX12_stepsOf [ga 775, gi b, gi w, gi v] (K, R, V) Q := by
  refine gC_of kX12_stepsOf (ls := [some (ga 775), some (gi b), some (gi w), some (gi v), none, none, none, none, none, none]) rfl (Nat.le_of_ble_eq_true rfl) ?_
  have lp : ∀ (jj : Nat) (k : Int) (set : Int) (had : Int) (fro : Int) (m : Nat) (j9 : Option gV) (bc bs : Nat), (64 : Int) - k < (jj : Int) → 1 ≤ k → (m : Int) + k = 64 → in64 had → set = glor had (nwS tx gs had fro) → lb had v = false → (∀ x j : Int, 0 ≤ x → x < 64 → 0 ≤ j → j < 64 → lb had x = true → exE tx gs x j → lb set j = true) → k - 1 ≤ cntB (fun j => lb had (j : Int)) 64 → fro ≠ 0 → (Q (some (gi (stF tx gs v (m + 1) k had fro))) (K, R, V)) → gX l E (gFm E (d + 4) iX12_stepsOf Q) 14 [some (ga 775), some (gi b), some (gi w), some (gi v), some (gl set), none, some (gi k), some (gl had), none, j9] [] (K, R, V) bc bs := by
    intro jj
    induction jj with
    | zero =>
      intro k set had fro m j9 bc bs hj k0 k1 hhi es hvh hcl hcn hfr hq2
      exfalso; omega
    | succ jj ih =>
      intro k set had fro m j9 bc bs hj k0 k1 hhi es hvh hcl hcn hfr hq2
      by_cases hv : lb set v = true
      · have hsi : in64 set := by rw [es]; exact glor_in _ _
        have hsb : ∀ j : Int, lb set j = (lb had j || lb (nwS tx gs had fro) j) := fun j => by rw [es, lb_or]
        refine gX_lload dX12_stepsOf_14 rfl ?_
        refine gX_iloadn dX12_stepsOf_16 rfl ?_
        refine gX_lshr dX12_stepsOf_17 ?_
        refine gX_lconst (x := 1) dX12_stepsOf_18 (by decide) ⟨by decide, by decide⟩ ?_
        refine gX_land dX12_stepsOf_19 ?_
        rw [glshr_b (by omega) (by omega), if_pos hv]
        refine gX_lconst (x := 0) dX12_stepsOf_20 (by decide) ⟨by decide, by decide⟩ ?_
        refine gX_lcmp dX12_stepsOf_21 ?_
        rw [show gcmp 1 0 = 1 from rfl]
        refine gX_ifne (tgt := 87) dX12_stepsOf_22 (by decide) (fun y1 => ?_) (fun y1 => by exfalso; omega)
        refine gX_lload dX12_stepsOf_87 rfl ?_
        refine gX_iloadn dX12_stepsOf_89 rfl ?_
        refine gX_lshr dX12_stepsOf_90 ?_
        refine gX_lconst (x := 1) dX12_stepsOf_91 (by decide) ⟨by decide, by decide⟩ ?_
        refine gX_land dX12_stepsOf_92 ?_
        rw [glshr_b (by omega) (by omega), if_pos hv]
        refine gX_lconst (x := 1) dX12_stepsOf_93 (by decide) ⟨by decide, by decide⟩ ?_
        refine gX_lcmp dX12_stepsOf_94 ?_
        rw [show gcmp 1 1 = 0 from rfl]
        refine gX_ifne (tgt := 103) dX12_stepsOf_95 (by decide) (fun y2 => by exfalso; omega) (fun y2 => ?_)
        refine gX_iload dX12_stepsOf_98 rfl ?_
        refine gX_goto (tgt := 104) dX12_stepsOf_100 (by decide) ?_
        refine gX_iret dX12_stepsOf_104 (Or.inl rfl) ?_
        rw [stF_s hfr (by omega) (by omega), if_pos (by rw [hsb v, hvh, Bool.false_or] at hv; exact hv)] at hq2
        exact hq2
      · have hsi : in64 set := by rw [es]; exact glor_in _ _
        have hsb : ∀ j : Int, lb set j = (lb had j || lb (nwS tx gs had fro) j) := fun j => by rw [es, lb_or]
        refine gX_lload dX12_stepsOf_14 rfl ?_
        refine gX_iloadn dX12_stepsOf_16 rfl ?_
        refine gX_lshr dX12_stepsOf_17 ?_
        refine gX_lconst (x := 1) dX12_stepsOf_18 (by decide) ⟨by decide, by decide⟩ ?_
        refine gX_land dX12_stepsOf_19 ?_
        rw [glshr_b (by omega) (by omega), if_neg hv]
        refine gX_lconst (x := 0) dX12_stepsOf_20 (by decide) ⟨by decide, by decide⟩ ?_
        refine gX_lcmp dX12_stepsOf_21 ?_
        rw [show gcmp 0 0 = 0 from rfl]
        refine gX_ifne (tgt := 87) dX12_stepsOf_22 (by decide) (fun n1 => by exfalso; omega) (fun n1 => ?_)
        refine gX_lload dX12_stepsOf_25 rfl ?_
        refine gX_lload dX12_stepsOf_27 rfl ?_
        refine gX_lcmp dX12_stepsOf_29 ?_
        refine gX_ifeq (tgt := 87) dX12_stepsOf_30 (by decide) (fun n2 => ?_) (fun n2 => ?_)
        · refine gX_lload dX12_stepsOf_87 rfl ?_
          refine gX_iloadn dX12_stepsOf_89 rfl ?_
          refine gX_lshr dX12_stepsOf_90 ?_
          refine gX_lconst (x := 1) dX12_stepsOf_91 (by decide) ⟨by decide, by decide⟩ ?_
          refine gX_land dX12_stepsOf_92 ?_
          rw [glshr_b (by omega) (by omega), if_neg hv]
          refine gX_lconst (x := 1) dX12_stepsOf_93 (by decide) ⟨by decide, by decide⟩ ?_
          refine gX_lcmp dX12_stepsOf_94 ?_
          rw [show gcmp 0 1 = -1 from rfl]
          refine gX_ifne (tgt := 103) dX12_stepsOf_95 (by decide) (fun n3 => ?_) (fun n3 => by exfalso; omega)
          refine gX_iconst dX12_stepsOf_103 ⟨by decide, by decide⟩ ?_
          refine gX_iret dX12_stepsOf_104 (Or.inl rfl) ?_
          have heq := (gcmp_eq set had).mp (by assumption)
          have hz0 : (nwS tx gs had fro) = 0 := by
            refine lb_ext (gland_in _ _) ⟨by decide, by decide⟩ (fun j j0 j1 => ?_)
            rw [lb_0]
            have h1 := hsb j
            rw [heq] at h1
            have h2 := nwS_b (tx := tx) (gs := gs) (seen := had) (fro := fro) j0 j1
            cases hz : lb had j with
            | true => rw [hz] at h2; rw [h2]; simp
            | false => rw [hz, Bool.false_or] at h1; exact h1.symm
          rw [stF_s hfr (by omega) (by omega), if_neg (by rw [hz0, lb_0]; decide), hz0, stF_0] at hq2
          exact hq2
        · refine gX_lload dX12_stepsOf_33 rfl ?_
          refine gX_lstore dX12_stepsOf_35 (show (7 : Nat) + 1 < 10 from by decide) (ls2 := [some (ga 775), some (gi b), some (gi w), some (gi v), some (gl set), none, some (gi k), some (gl set), none, j9]) rfl ?_
          refine gX_iconst dX12_stepsOf_37 ⟨by decide, by decide⟩ ?_
          refine gX_istore dX12_stepsOf_38 (show (9 : Nat) < 10 from by decide) (ls2 := [some (ga 775), some (gi b), some (gi w), some (gi v), some (gl set), none, some (gi k), some (gl set), none, some (gi 0)]) rfl ?_
          have hne : set ≠ had := fun z => absurd ((gcmp_eq set had).mpr z) (by assumption)
          have hnz : (nwS tx gs had fro) ≠ 0 := fun z => hne (by rw [es, z, glor_0 hhi])
          obtain ⟨j9, j90, j91, j92a⟩ := lb_nz (gland_in _ _) hnz
          have j92 : lb (nwS tx gs had fro) j9 = true := j92a
          have hj93 : lb had j9 = false := by
            have j94 := j92
            rw [nwS_b j90 j91] at j94
            cases hz : lb had j9 with
            | false => rfl
            | true => rw [hz] at j94; simp at j94
          have hlt := cntB_lt (f := fun j => lb had (j : Int)) (g := fun j => lb set (j : Int)) (n := 64) (k := j9.toNat) (fun j hj hz => by rw [hsb, hz]; rfl) (by omega) (by rw [Int.toNat_of_nonneg j90]; exact hj93) (by rw [Int.toNat_of_nonneg j90, hsb, j92]; simp)
          have hm1 : 1 ≤ m := Decidable.byContradiction fun z => by
            have hall := cntB_lt (f := fun j => lb set (j : Int)) (g := fun _ => true) (n := 64) (k := v.toNat) (fun _ _ _ => rfl) (by omega) (by rw [Int.toNat_of_nonneg (by omega)]; simpa using hv) rfl
            have hle := (cntB_bd (fun _ => true) 64).2
            omega
          obtain ⟨m9, rfl⟩ : ∃ m9, m = m9 + 1 := ⟨m - 1, by omega⟩
          rw [stF_s hfr (by omega) (by omega), if_neg (fun z => hv (by rw [hsb, z]; simp)), ← es] at hq2
          have li : ∀ (jj : Nat) (x : Int) (s2 : Int) (bc bs : Nat), (64 : Int) - x < (jj : Int) → 0 ≤ x → x ≤ 64 → in64 s2 → (∀ j : Int, 0 ≤ j → j < 64 → (lb s2 j = true ↔ (lb set j = true ∨ ∃ y : Int, 0 ≤ y ∧ y < x ∧ lb set y = true ∧ exE tx gs y j))) → (∀ s3 x3 bc bs, in64 s3 → (∀ j : Int, 0 ≤ j → j < 64 → (lb s3 j = true ↔ (lb set j = true ∨ ∃ y : Int, 0 ≤ y ∧ y < 64 ∧ lb set y = true ∧ exE tx gs y j))) → gX l E (gFm E (d + 4) iX12_stepsOf Q) 81 [some (ga 775), some (gi b), some (gi w), some (gi v), some (gl s3), none, some (gi k), some (gl set), none, x3] [] (K, R, V) bc bs) → gX l E (gFm E (d + 4) iX12_stepsOf Q) 40 [some (ga 775), some (gi b), some (gi w), some (gi v), some (gl s2), none, some (gi k), some (gl set), none, some (gi x)] [] (K, R, V) bc bs := by
            intro jj
            induction jj with
            | zero =>
              intro x s2 bc bs hj i0 i1 hs2 hb2 hk2
              exfalso; omega
            | succ jj ih =>
              intro x s2 bc bs hj i0 i1 hs2 hb2 hk2
              by_cases hx64 : x < 64
              · by_cases hbx : lb set x = true
                · refine gX_iload dX12_stepsOf_40 rfl ?_
                  refine gX_bipush dX12_stepsOf_42 (by decide) ⟨by decide, by decide⟩ ?_
                  refine gX_icmpge (tgt := 81) dX12_stepsOf_44 (by decide) (fun iy1 => ?_) (fun iy1 => ?_)
                  · exfalso
                    omega
                  · refine gX_lload dX12_stepsOf_47 rfl ?_
                    refine gX_lload dX12_stepsOf_49 rfl ?_
                    refine gX_iload dX12_stepsOf_51 rfl ?_
                    refine gX_lshr dX12_stepsOf_53 ?_
                    refine gX_lconst (x := 1) dX12_stepsOf_54 (by decide) ⟨by decide, by decide⟩ ?_
                    refine gX_land dX12_stepsOf_55 ?_
                    rw [glshr_b (by omega) (by omega), if_pos hbx]
                    refine gX_lconst (x := 1) dX12_stepsOf_56 (by decide) ⟨by decide, by decide⟩ ?_
                    refine gX_lcmp dX12_stepsOf_57 ?_
                    rw [show gcmp 1 1 = 0 from rfl]
                    refine gX_ifne (tgt := 71) dX12_stepsOf_58 (by decide) (fun iy2 => by exfalso; omega) (fun iy2 => ?_)
                    refine gX_aloadn dX12_stepsOf_61 rfl ?_
                    refine gX_iloadn dX12_stepsOf_62 rfl ?_
                    refine gX_iload dX12_stepsOf_63 rfl ?_
                    refine gX_virt (J := iX12_explaining) (av := [gi b, gi x]) (a := 775) (st := [gl s2]) dX12_stepsOf_65 lkX12_460 kX12_explaining vX12_explaining (gFit_m (by decide)) hM.1 rfl rfl (Nat.le_of_ble_eq_true rfl) (Nat.zero_le _) (Nat.zero_le _) rfl ?_
                    refine m_explaining hM hb hk hs hok (by omega) (by omega) ?_
                    show gX l E _ 68 [some (ga 775), some (gi b), some (gi w), some (gi v), some (gl s2), none, some (gi k), some (gl set), none, some (gi x)] [gl (expl tx gs (glshl 1 x)), gl s2] (K, R, V) _ _
                    refine gX_goto (tgt := 72) dX12_stepsOf_68 (by decide) ?_
                    refine gX_lor dX12_stepsOf_72 ?_
                    refine gX_lstore dX12_stepsOf_73 (show (4 : Nat) + 1 < 10 from by decide) (ls2 := [some (ga 775), some (gi b), some (gi w), some (gi v), some (gl (glor s2 (expl tx gs (glshl 1 x)))), none, some (gi k), some (gl set), none, some (gi x)]) rfl ?_
                    refine gX_iinc dX12_stepsOf_75 rfl (show (9 : Nat) < 10 from by decide) ⟨by omega, by omega⟩ (ls2 := [some (ga 775), some (gi b), some (gi w), some (gi v), some (gl (glor s2 (expl tx gs (glshl 1 x)))), none, some (gi k), some (gl set), none, some (gi (x + 1))]) rfl ?_
                    refine gX_goto (tgt := 40) dX12_stepsOf_78 (by decide) ?_
                    refine ih (x + 1) _ _ _ (by omega) (by omega) (by omega) (glor_in _ _) (fun j j0 j1 => ?_) hk2
                    rw [lb_or, Bool.or_eq_true, hb2 j j0 j1, expl_b hok.wq j0 j1]
                    constructor
                    · rintro ((z | ⟨y, y0, y1, y2, y3⟩) | ⟨y, y0, y1, y2, y3⟩)
                      · exact Or.inl z
                      · exact Or.inr ⟨y, y0, by omega, y2, y3⟩
                      · rw [lb_one (by omega) (by omega) y0 y1, decide_eq_true_eq] at y2
                        subst y2
                        exact Or.inr ⟨y, y0, by omega, hbx, y3⟩
                    · rintro (z | ⟨y, y0, y1, y2, y3⟩)
                      · exact Or.inl (Or.inl z)
                      · by_cases ey : y = x
                        · subst ey
                          exact Or.inr ⟨y, y0, by omega, by rw [lb_one y0 (by omega) y0 (by omega)]; exact decide_eq_true rfl, y3⟩
                        · exact Or.inl (Or.inr ⟨y, y0, by omega, y2, y3⟩)
                · refine gX_iload dX12_stepsOf_40 rfl ?_
                  refine gX_bipush dX12_stepsOf_42 (by decide) ⟨by decide, by decide⟩ ?_
                  refine gX_icmpge (tgt := 81) dX12_stepsOf_44 (by decide) (fun io1 => ?_) (fun io1 => ?_)
                  · exfalso
                    omega
                  · refine gX_lload dX12_stepsOf_47 rfl ?_
                    refine gX_lload dX12_stepsOf_49 rfl ?_
                    refine gX_iload dX12_stepsOf_51 rfl ?_
                    refine gX_lshr dX12_stepsOf_53 ?_
                    refine gX_lconst (x := 1) dX12_stepsOf_54 (by decide) ⟨by decide, by decide⟩ ?_
                    refine gX_land dX12_stepsOf_55 ?_
                    rw [glshr_b (by omega) (by omega), if_neg hbx]
                    refine gX_lconst (x := 1) dX12_stepsOf_56 (by decide) ⟨by decide, by decide⟩ ?_
                    refine gX_lcmp dX12_stepsOf_57 ?_
                    rw [show gcmp 0 1 = -1 from rfl]
                    refine gX_ifne (tgt := 71) dX12_stepsOf_58 (by decide) (fun io2 => ?_) (fun io2 => by exfalso; omega)
                    refine gX_lconst (x := 0) dX12_stepsOf_71 (by decide) ⟨by decide, by decide⟩ ?_
                    refine gX_lor dX12_stepsOf_72 ?_
                    rw [glor_0 hs2]
                    refine gX_lstore dX12_stepsOf_73 (show (4 : Nat) + 1 < 10 from by decide) (ls2 := [some (ga 775), some (gi b), some (gi w), some (gi v), some (gl s2), none, some (gi k), some (gl set), none, some (gi x)]) rfl ?_
                    refine gX_iinc dX12_stepsOf_75 rfl (show (9 : Nat) < 10 from by decide) ⟨by omega, by omega⟩ (ls2 := [some (ga 775), some (gi b), some (gi w), some (gi v), some (gl s2), none, some (gi k), some (gl set), none, some (gi (x + 1))]) rfl ?_
                    refine gX_goto (tgt := 40) dX12_stepsOf_78 (by decide) ?_
                    refine ih (x + 1) _ _ _ (by omega) (by omega) (by omega) hs2 (fun j j0 j1 => ?_) hk2
                    rw [hb2 j j0 j1]
                    constructor
                    · rintro (z | ⟨y, y0, y1, y2, y3⟩)
                      · exact Or.inl z
                      · exact Or.inr ⟨y, y0, by omega, y2, y3⟩
                    · rintro (z | ⟨y, y0, y1, y2, y3⟩)
                      · exact Or.inl z
                      · by_cases ey : y = x
                        · subst ey; exact absurd y2 hbx
                        · exact Or.inr ⟨y, y0, by omega, y2, y3⟩
              · refine gX_iload dX12_stepsOf_40 rfl ?_
                refine gX_bipush dX12_stepsOf_42 (by decide) ⟨by decide, by decide⟩ ?_
                refine gX_icmpge (tgt := 81) dX12_stepsOf_44 (by decide) (fun ie1 => ?_) (fun ie1 => ?_)
                · exact hk2 s2 _ _ _ hs2 (by rw [show x = 64 by omega] at hb2; exact hb2)
                · exfalso
                  omega
          refine li 65 0 set _ _ (by omega) (by omega) (by omega) hsi (fun j j0 j1 => ⟨fun z => Or.inl z, fun z => z.resolve_right fun ⟨y, y0, y1, _⟩ => by omega⟩) (fun s3 x3 bc bs hs3 hb3 => ?_)
          refine gX_iinc dX12_stepsOf_81 rfl (show (6 : Nat) < 10 from by decide) ⟨by omega, by omega⟩ (ls2 := [some (ga 775), some (gi b), some (gi w), some (gi v), some (gl s3), none, some (gi (k + 1)), some (gl set), none, x3]) rfl ?_
          refine gX_goto (tgt := 14) dX12_stepsOf_84 (by decide) ?_
          refine ih (k + 1) s3 set (nwS tx gs had fro) m9 _ _ _ (by omega) (by omega) (by omega) hsi ?_ (by simpa using hv) (fun x j x0 x1 j0 j1 z1 z2 => (hb3 j j0 j1).mpr (Or.inr ⟨x, x0, x1, z1, z2⟩)) (by omega) hnz hq2
          refine lb_ext hs3 (glor_in _ _) (fun j j0 j1 => ?_)
          have hiff : lb s3 j = true ↔ lb (glor set (nwS tx gs set (nwS tx gs had fro))) j = true := by
            rw [hb3 j j0 j1, lb_or, Bool.or_eq_true, nwS_b j0 j1, Bool.and_eq_true, expl_b hok.wq j0 j1]
            constructor
            · rintro (z | ⟨y, y0, y1, y2, y3⟩)
              · exact Or.inl z
              · by_cases hsj : lb set j = true
                · exact Or.inl hsj
                · refine Or.inr ⟨⟨y, y0, y1, ?_, y3⟩, by simpa using hsj⟩
                  rw [hsb, Bool.or_eq_true] at y2
                  rcases y2 with z | z
                  · exact absurd (hcl y j y0 y1 j0 j1 z y3) hsj
                  · exact z
            · rintro (z | ⟨⟨y, y0, y1, y2, y3⟩, -⟩)
              · exact Or.inl z
              · exact Or.inr ⟨y, y0, y1, by rw [hsb, y2]; simp, y3⟩
          cases ha : lb s3 j with
          | true => exact (hiff.mp ha).symm
          | false =>
            cases hc : lb (glor set (nwS tx gs set (nwS tx gs had fro))) j with
            | false => rfl
            | true => rw [hiff.mpr hc] at ha; cases ha
  refine gX_aloadn dX12_stepsOf_0 rfl ?_
  refine gX_iloadn dX12_stepsOf_1 rfl ?_
  refine gX_iloadn dX12_stepsOf_2 rfl ?_
  refine gX_virt (J := iX12_explaining) (av := [gi b, gi w]) (a := 775) (st := []) dX12_stepsOf_3 lkX12_460 kX12_explaining vX12_explaining (gFit_m (by decide)) hM.1 rfl rfl (Nat.le_of_ble_eq_true rfl) (Nat.zero_le _) (Nat.zero_le _) rfl ?_
  refine m_explaining hM hb hk hs hok w0 (by omega) ?_
  show gX l E _ 6 [some (ga 775), some (gi b), some (gi w), some (gi v), none, none, none, none, none, none] [gl (expl tx gs (glshl 1 w))] (K, R, V) _ _
  refine gX_lstore dX12_stepsOf_6 (show (4 : Nat) + 1 < 10 from by decide) (ls2 := [some (ga 775), some (gi b), some (gi w), some (gi v), some (gl (expl tx gs (glshl 1 w))), none, none, none, none, none]) rfl ?_
  refine gX_iconst dX12_stepsOf_8 ⟨by decide, by decide⟩ ?_
  refine gX_istore dX12_stepsOf_9 (show (6 : Nat) < 10 from by decide) (ls2 := [some (ga 775), some (gi b), some (gi w), some (gi v), some (gl (expl tx gs (glshl 1 w))), none, some (gi 1), none, none, none]) rfl ?_
  refine gX_lconst (x := 0) dX12_stepsOf_11 (by decide) ⟨by decide, by decide⟩ ?_
  refine gX_lstore dX12_stepsOf_12 (show (7 : Nat) + 1 < 10 from by decide) (ls2 := [some (ga 775), some (gi b), some (gi w), some (gi v), some (gl (expl tx gs (glshl 1 w))), none, some (gi 1), some (gl 0), none, none]) rfl ?_
  have hex := expl_in tx gs (glshl 1 w)
  have hnw : nwS tx gs 0 (glshl 1 w) = expl tx gs (glshl 1 w) := lb_ext (gland_in _ _) hex (fun j j0 j1 => by rw [nwS_b j0 j1, lb_0]; simp)
  refine lp 64 1 _ 0 (glshl 1 w) 63 none _ _ (by omega) (by omega) (by omega) ⟨by decide, by decide⟩ ?_ (lb_0 v) (fun x j _ _ _ _ z _ => by rw [lb_0] at z; cases z) ?_ ?_ hQ
  · rw [hnw]
    exact lb_ext hex (glor_in _ _) (fun j _ _ => by rw [lb_or, lb_0, Bool.false_or])
  · have := (cntB_bd (fun j => lb 0 ((j : Nat) : Int)) 64).1; omega
  · intro z
    have h1 := lb_one (w := w) (k := w) (by omega) (by omega) (by omega) (by omega)
    rw [z, lb_0, decide_eq_true rfl] at h1
    cases h1
set_option maxRecDepth 4000 in
theorem m_steps (hM : mdK K R) (hS : mdIs V S) (hO : ∀ b : Int, 0 ≤ b → b < S.1.length → bkOk (gbq S b).1 (gbq S b).2.1) (hQ : ∀ V', qFr V V' → Q (some (gi (aSteps S b w v))) (K, R, V')) : gC l E (d + 5) iX12_steps [ga 775, gi b, gi w, gi v] (K, R, V) Q := by
  refine gC_of kX12_steps (ls := [some (ga 775), some (gi b), some (gi w), some (gi v)]) rfl (Nat.le_of_ble_eq_true rfl) ?_
  have hn0 := hS.1
  have hn1 := hS.2.1
  refine gX_aloadn dX12_steps_0 rfl ?_
  refine gX_iloadn dX12_steps_1 rfl ?_
  refine gX_virt (J := iX12_isBook) (av := [gi b]) (a := 775) (st := []) dX12_steps_2 lkX12_371 kX12_isBook vX12_isBook (gFit_m (by decide)) hM.1 rfl rfl (Nat.le_of_ble_eq_true rfl) (Nat.zero_le _) (Nat.zero_le _) rfl ?_
  refine m_isBook hM hS.1 hS.2.1 ?_
  show gX l E _ 5 [some (ga 775), some (gi b), some (gi w), some (gi v)] [gi (b2i (inR b 0 ((S.1.length : Int) - 1)))] (K, R, V) _ _
  refine gX_ifne (tgt := 12) dX12_steps_5 (by decide) (fun w1 => ?_) (fun w1 => ?_)
  · have w1 := inR_1 w1
    have hr : 0 ≤ b ∧ b < S.1.length := ⟨by omega, by omega⟩
    obtain ⟨q, eq⟩ : ∃ q, q = gbq S b := ⟨_, rfl⟩
    have hk := hS.2.2.2.1 b hr.1 hr.2
    have hok := hO b hr.1 hr.2
    rw [← eq] at hk hok
    have hb : 0 ≤ b ∧ b ≤ 10 := ⟨by omega, by omega⟩
    have h20 := hk.1.2.2.2.2.1
    have h40 := hk.1.2.1
    refine gX_iloadn dX12_steps_12 rfl ?_
    refine gX_stat (J := iX12_isWord) (av := [gi w]) (st := []) dX12_steps_13 lkX12_398 kX12_isWord sX12_isWord (gFit_m (by decide)) rfl (Nat.le_of_ble_eq_true rfl) (Nat.zero_le _) (Nat.zero_le _) rfl ?_
    refine m_isWord ?_
    show gX l E _ 16 [some (ga 775), some (gi b), some (gi w), some (gi v)] [gi (b2i (inR w 0 63))] (K, R, V) _ _
    refine gX_ifeq (tgt := 36) dX12_steps_16 (by decide) (fun w2 => ?_) (fun w2 => ?_)
    · have w2 := inR_0 w2
      refine gX_sipush dX12_steps_36 (by decide) ⟨by decide, by decide⟩ ?_
      refine gX_iret dX12_steps_39 (Or.inl rfl) ?_
      have ea : aSteps S b w v = -1002 := by
        unfold aSteps
        rw [if_pos hr, if_neg (by omega)]
      rw [ea] at hQ
      exact hQ V qFr.rf
    · have w2 := inR_1 w2
      refine gX_iloadn dX12_steps_19 rfl ?_
      refine gX_stat (J := iX12_isWord) (av := [gi v]) (st := []) dX12_steps_20 lkX12_398 kX12_isWord sX12_isWord (gFit_m (by decide)) rfl (Nat.le_of_ble_eq_true rfl) (Nat.zero_le _) (Nat.zero_le _) rfl ?_
      refine m_isWord ?_
      show gX l E _ 23 [some (ga 775), some (gi b), some (gi w), some (gi v)] [gi (b2i (inR v 0 63))] (K, R, V) _ _
      refine gX_ifeq (tgt := 36) dX12_steps_23 (by decide) (fun w3 => ?_) (fun w3 => ?_)
      · have w3 := inR_0 w3
        refine gX_sipush dX12_steps_36 (by decide) ⟨by decide, by decide⟩ ?_
        refine gX_iret dX12_steps_39 (Or.inl rfl) ?_
        have ea : aSteps S b w v = -1002 := by
          unfold aSteps
          rw [if_pos hr, if_neg (by omega)]
        rw [ea] at hQ
        exact hQ V qFr.rf
      · have w3 := inR_1 w3
        refine gX_aloadn dX12_steps_26 rfl ?_
        refine gX_iloadn dX12_steps_27 rfl ?_
        refine gX_iloadn dX12_steps_28 rfl ?_
        refine gX_iloadn dX12_steps_29 rfl ?_
        refine gX_virt (J := iX12_stepsOf) (av := [gi b, gi w, gi v]) (a := 775) (st := []) dX12_steps_30 lkX12_466 kX12_stepsOf vX12_stepsOf (gFit_m (by decide)) hM.1 rfl rfl (Nat.le_of_ble_eq_true rfl) (Nat.zero_le _) (Nat.zero_le _) rfl ?_
        refine m_stepsOf hM hb hk.1 hk.2.1 hok (by omega) (by omega) (by omega) (by omega) ?_
        show gX l E _ 33 [some (ga 775), some (gi b), some (gi w), some (gi v)] [gi (stps q.1 q.2.1 w v)] (K, R, V) _ _
        refine gX_goto (tgt := 39) dX12_steps_33 (by decide) ?_
        refine gX_iret dX12_steps_39 (Or.inl rfl) ?_
        have ea : aSteps S b w v = stps q.1 q.2.1 w v := by
          unfold aSteps
          rw [if_pos hr, ← eq, if_pos (by omega)]
        rw [ea] at hQ
        exact hQ V qFr.rf
  · have w1 := inR_0 w1
    refine gX_sipush dX12_steps_8 (by decide) ⟨by decide, by decide⟩ ?_
    refine gX_iret dX12_steps_11 (Or.inl rfl) ?_
    have ea : aSteps S b w v = -1001 := by
      unfold aSteps
      rw [if_neg (by omega)]
    rw [ea] at hQ
    exact hQ V qFr.rf
theorem stF_cs {tx : List Int} {gs : List gG} {v : Int} : ∀ (m : Nat) (k s f : Int), 1 ≤ k → stF tx gs v m k s f = -1 ∨ 1 ≤ stF tx gs v m k s f
  | 0, _, _, _, _ => Or.inl rfl
  | m + 1, k, s, f, h => by
    show (if f = 0 then -1 else if _ then k else stF tx gs v m (k + 1) _ _) = -1 ∨ 1 ≤ (if f = 0 then -1 else if _ then k else stF tx gs v m (k + 1) _ _)
    split
    · exact Or.inl rfl
    · split
      · exact Or.inr h
      · exact stF_cs m (k + 1) _ _ (by omega)
set_option maxRecDepth 4000 in
theorem m_round (hM : mdK K R) (hS : mdIs V S) (hO : ∀ b : Int, 0 ≤ b → b < S.1.length → bkOk (gbq S b).1 (gbq S b).2.1) (hQ : ∀ V', qFr V V' → Q (some (gl (aRound S b))) (K, R, V')) : gC l E (d + 5) iX12_round [ga 775, gi b] (K, R, V) Q := by
  refine gC_of kX12_round (ls := [some (ga 775), some (gi b), none, none, none]) rfl (Nat.le_of_ble_eq_true rfl) ?_
  have hn0 := hS.1
  have hn1 := hS.2.1
  refine gX_aloadn dX12_round_0 rfl ?_
  refine gX_iloadn dX12_round_1 rfl ?_
  refine gX_virt (J := iX12_isBook) (av := [gi b]) (a := 775) (st := []) dX12_round_2 lkX12_371 kX12_isBook vX12_isBook (gFit_m (by decide)) hM.1 rfl rfl (Nat.le_of_ble_eq_true rfl) (Nat.zero_le _) (Nat.zero_le _) rfl ?_
  refine m_isBook hM hS.1 hS.2.1 ?_
  show gX l E _ 5 [some (ga 775), some (gi b), none, none, none] [gi (b2i (inR b 0 ((S.1.length : Int) - 1)))] (K, R, V) _ _
  refine gX_ifne (tgt := 12) dX12_round_5 (by decide) (fun m1 => ?_) (fun m1 => ?_)
  · have m1 := inR_1 m1
    have hr : 0 ≤ b ∧ b < S.1.length := ⟨by omega, by omega⟩
    obtain ⟨q, eq⟩ : ∃ q, q = gbq S b := ⟨_, rfl⟩
    have hk := hS.2.2.2.1 b hr.1 hr.2
    have hok := hO b hr.1 hr.2
    rw [← eq] at hk hok
    have hb : 0 ≤ b ∧ b ≤ 10 := ⟨by omega, by omega⟩
    have h20 := hk.1.2.2.2.2.1
    have h40 := hk.1.2.1
    refine gX_lconst (x := 0) dX12_round_12 (by decide) ⟨by decide, by decide⟩ ?_
    refine gX_lstoren dX12_round_13 (show (2 : Nat) + 1 < 5 from by decide) (ls2 := [some (ga 775), some (gi b), some (gl 0), none, none]) rfl ?_
    refine gX_iconst dX12_round_14 ⟨by decide, by decide⟩ ?_
    refine gX_istore dX12_round_15 (show (4 : Nat) < 5 from by decide) (ls2 := [some (ga 775), some (gi b), some (gl 0), none, some (gi 0)]) rfl ?_
    have lp : ∀ (jj : Nat) (w : Int) (x : Int) (bc bs : Nat), (64 : Int) - w < (jj : Int) → 0 ≤ w → w ≤ 64 → in64 x → (Q (some (gl (rouF q.1 q.2.1 (64 - w).toNat w x))) (K, R, V)) → gX l E (gFm E (d + 5) iX12_round Q) 17 [some (ga 775), some (gi b), some (gl x), none, some (gi w)] [] (K, R, V) bc bs := by
      intro jj
      induction jj with
      | zero =>
        intro w x bc bs hj q0 q1 hx9 q2
        exfalso; omega
      | succ jj ih =>
        intro w x bc bs hj q0 q1 hx9 q2
        refine gX_iload dX12_round_17 rfl ?_
        refine gX_bipush dX12_round_19 (by decide) ⟨by decide, by decide⟩ ?_
        refine gX_icmpge (tgt := 53) dX12_round_21 (by decide) (fun b1 => ?_) (fun b1 => ?_)
        · refine gX_lloadn dX12_round_53 rfl ?_
          refine gX_lret dX12_round_54 rfl ?_
          have ei : (64 - w).toNat = 0 := by omega
          rw [ei] at q2
          exact q2
        · refine gX_lloadn dX12_round_24 rfl ?_
          refine gX_aloadn dX12_round_25 rfl ?_
          refine gX_iloadn dX12_round_26 rfl ?_
          refine gX_iload dX12_round_27 rfl ?_
          refine gX_iload dX12_round_29 rfl ?_
          refine gX_virt (J := iX12_stepsOf) (av := [gi b, gi w, gi w]) (a := 775) (st := [gl x]) dX12_round_31 lkX12_466 kX12_stepsOf vX12_stepsOf (gFit_m (by decide)) hM.1 rfl rfl (Nat.le_of_ble_eq_true rfl) (Nat.zero_le _) (Nat.zero_le _) rfl ?_
          refine m_stepsOf hM hb hk.1 hk.2.1 hok (by omega) (by omega) (by omega) (by omega) ?_
          show gX l E _ 34 [some (ga 775), some (gi b), some (gl x), none, some (gi w)] [gi (stps q.1 q.2.1 w w), gl x] (K, R, V) _ _
          refine gX_ifle (tgt := 44) dX12_round_34 (by decide) (fun b2 => ?_) (fun b2 => ?_)
          · refine gX_lconst (x := 0) dX12_round_44 (by decide) ⟨by decide, by decide⟩ ?_
            refine gX_lor dX12_round_45 ?_
            rw [glor_0 hx9]
            refine gX_lstoren dX12_round_46 (show (2 : Nat) + 1 < 5 from by decide) (ls2 := [some (ga 775), some (gi b), some (gl x), none, some (gi w)]) rfl ?_
            refine gX_iinc dX12_round_47 rfl (show (4 : Nat) < 5 from by decide) ⟨by omega, by omega⟩ (ls2 := [some (ga 775), some (gi b), some (gl x), none, some (gi (w + 1))]) rfl ?_
            refine gX_goto (tgt := 17) dX12_round_50 (by decide) ?_
            have hcs := stF_cs (tx := q.1) (gs := q.2.1) (v := w) 64 1 0 (glshl 1 w) (by omega)
            have hcs2 : stps q.1 q.2.1 w w = -1 ∨ 1 ≤ stps q.1 q.2.1 w w := hcs
            have ek : (64 - w).toNat = (64 - (w + 1)).toNat + 1 := by omega
            have e1 : rouF q.1 q.2.1 (64 - w).toNat w x = rouF q.1 q.2.1 (64 - (w + 1)).toNat (w + 1) (x) := by
              rw [ek]
              show rouF q.1 q.2.1 _ _ (if _ then _ else _) = _
              rw [if_pos (by omega)]
            rw [e1] at q2
            exact ih (w + 1) _ _ _ (by omega) (by omega) (by omega) hx9 q2
          · refine gX_lconst (x := 1) dX12_round_37 (by decide) ⟨by decide, by decide⟩ ?_
            refine gX_iload dX12_round_38 rfl ?_
            refine gX_lshl dX12_round_40 ?_
            refine gX_goto (tgt := 45) dX12_round_41 (by decide) ?_
            refine gX_lor dX12_round_45 ?_
            refine gX_lstoren dX12_round_46 (show (2 : Nat) + 1 < 5 from by decide) (ls2 := [some (ga 775), some (gi b), some (gl (glor x (glshl 1 w))), none, some (gi w)]) rfl ?_
            refine gX_iinc dX12_round_47 rfl (show (4 : Nat) < 5 from by decide) ⟨by omega, by omega⟩ (ls2 := [some (ga 775), some (gi b), some (gl (glor x (glshl 1 w))), none, some (gi (w + 1))]) rfl ?_
            refine gX_goto (tgt := 17) dX12_round_50 (by decide) ?_
            have hcs := stF_cs (tx := q.1) (gs := q.2.1) (v := w) 64 1 0 (glshl 1 w) (by omega)
            have hcs2 : stps q.1 q.2.1 w w = -1 ∨ 1 ≤ stps q.1 q.2.1 w w := hcs
            have ek : (64 - w).toNat = (64 - (w + 1)).toNat + 1 := by omega
            have e1 : rouF q.1 q.2.1 (64 - w).toNat w x = rouF q.1 q.2.1 (64 - (w + 1)).toNat (w + 1) (glor x (glshl 1 w)) := by
              rw [ek]
              show rouF q.1 q.2.1 _ _ (if _ then _ else _) = _
              rw [if_neg (by omega)]
            rw [e1] at q2
            exact ih (w + 1) _ _ _ (by omega) (by omega) (by omega) (glor_in _ _) q2
    have ea : aRound S b = rouF q.1 q.2.1 64 0 0 := by
      unfold aRound
      rw [if_pos hr, ← eq]
    have hQ2 := hQ V qFr.rf
    rw [ea] at hQ2
    exact lp 65 0 0 _ _ (by omega) (by omega) (by omega) ⟨by decide, by decide⟩ hQ2
  · have m1 := inR_0 m1
    refine gX_ldc2 (x := -1001) dX12_round_8 clX12_458 (by decide) ⟨by decide, by decide⟩ ?_
    refine gX_lret dX12_round_11 rfl ?_
    have ea : aRound S b = -1001 := by
      unfold aRound
      rw [if_neg (by omega)]
    rw [ea] at hQ
    exact hQ V qFr.rf
end MD10
