/-! The reference: groups, clashes, what is sound. Written by wip/whole/tools/mk_md6.py. -/
theorem gor_z0 : ∀ x : Fin 1024, gor ((x : Nat) : Int) 0 = ((x : Nat) : Int) := by decide +kernel
theorem gor_z {x : Int} (h : 0 ≤ x ∧ x < 1024) : gor x 0 = x := by
  obtain ⟨n, rfl⟩ := toN h.1
  exact gor_z0 ⟨n, by omega⟩
def gmF (S : gbS) (ba se i r : Int) : Nat → Int → Int × Int → Int × Int
  | 0, _, p => p
  | k + 1, b, p => gmF S ba se i r k (b + 1) (if gand (gshr se b) 1 = 1 ∧ b ≠ ba ∧ rdg S ba b i = r then (gor p.1 (gshl 1 b), p.2 + 1) else p)
def gmP (S : gbS) (ba se i r : Int) : Int × Int := gmF S ba se i r S.1.length 0 (0, 0)
def gmS (S : gbS) (ba se i r : Int) (g : List Int) : List Int := if 2 ≤ (gmP S ba se i r).2 ∧ r ≠ lat (gbX S ba) i then addM g (gmP S ba se i r).1 else g
def rgF (S : gbS) (ba se : Int) : Nat → Int → List Int → List Int
  | 0, _, g => g
  | j + 1, i, g => rgF S ba se j (i + 1) (foldR (gmS S ba se i) 65 (-1) g)
def rgL (S : gbS) (ba se : Int) : List Int := rgF S ba se (gbX S ba).length 0 []
def ceC (S : gbS) (ba se i r : Int) (n : Nat) : Int := cntB (fun b => decide (gand (gshr se (b : Int)) 1 = 1 ∧ (b : Int) ≠ ba ∧ rdg S ba (b : Int) i = r)) n
def rmC (S : gbS) (ba se i r : Int) (n : Nat) : Int := cntB (fun b => decide (gand (gshr se (b : Int)) 1 = 1 ∧ (b : Int) ≠ ba ∧ r ≤ rdg S ba (b : Int) i)) n
theorem rmC_s (S : gbS) (ba se i r : Int) : ∀ n : Nat, rmC S ba se i r n = ceC S ba se i r n + rmC S ba se i (r + 1) n
  | 0 => rfl
  | n + 1 => by
    have h := rmC_s S ba se i r n
    unfold rmC ceC at h ⊢
    rw [cntB_s, cntB_s, cntB_s, h]
    by_cases c : gand (gshr se (n : Int)) 1 = 1 ∧ (n : Int) ≠ ba
    · by_cases e : rdg S ba (n : Int) i = r
      · rw [if_pos (decide_eq_true ⟨c.1, c.2, by omega⟩), if_pos (decide_eq_true ⟨c.1, c.2, e⟩), if_neg (by rw [decide_eq_true_eq]; rintro ⟨_, _, z⟩; omega)]; omega
      · by_cases e2 : r ≤ rdg S ba (n : Int) i
        · rw [if_pos (decide_eq_true ⟨c.1, c.2, e2⟩), if_neg (by rw [decide_eq_true_eq]; rintro ⟨_, _, z⟩; exact e z), if_pos (decide_eq_true ⟨c.1, c.2, by omega⟩)]; omega
        · rw [if_neg (by rw [decide_eq_true_eq]; rintro ⟨_, _, z⟩; exact e2 z), if_neg (by rw [decide_eq_true_eq]; rintro ⟨_, _, z⟩; exact e z), if_neg (by rw [decide_eq_true_eq]; rintro ⟨_, _, z⟩; omega)]; omega
    · rw [if_neg (by rw [decide_eq_true_eq]; rintro ⟨z1, z2, _⟩; exact c ⟨z1, z2⟩), if_neg (by rw [decide_eq_true_eq]; rintro ⟨z1, z2, _⟩; exact c ⟨z1, z2⟩), if_neg (by rw [decide_eq_true_eq]; rintro ⟨z1, z2, _⟩; exact c ⟨z1, z2⟩)]; omega
theorem rmC_9 {S : gbS} {ba se i r : Int} {n : Nat} (hn : n ≤ 10) (h : 0 ≤ ba ∧ ba < n) : 0 ≤ rmC S ba se i r n ∧ rmC S ba se i r n ≤ 9 := by
  refine ⟨(cntB_bd _ n).1, ?_⟩
  have h1 := cntB_lt (f := fun b => decide (gand (gshr se (b : Int)) 1 = 1 ∧ (b : Int) ≠ ba ∧ r ≤ rdg S ba (b : Int) i)) (g := fun _ => true) (n := n) (k := ba.toNat) (fun _ _ _ => rfl) (by omega) (by rw [decide_eq_false_iff_not]; rintro ⟨_, z, _⟩; omega) rfl
  have h2 := (cntB_bd (fun _ => true) n).2
  unfold rmC
  omega
theorem gmF_2 {S : gbS} {ba se i r : Int} : ∀ (k b : Nat) (p : Int × Int), p.2 = ceC S ba se i r b → (gmF S ba se i r k b p).2 = ceC S ba se i r (b + k)
  | 0, b, p, h => h
  | k + 1, b, p, h => by
    show (gmF S ba se i r k ((b : Int) + 1) _).2 = _
    rw [show ((b : Int) + 1) = ((b + 1 : Nat) : Int) by omega, gmF_2 k (b + 1) _ ?_, show b + 1 + k = b + (k + 1) by omega]
    unfold ceC at h ⊢
    rw [cntB_s, ← h]
    by_cases c : gand (gshr se (b : Int)) 1 = 1 ∧ (b : Int) ≠ ba ∧ rdg S ba (b : Int) i = r
    · rw [if_pos c, if_pos (decide_eq_true c)]
    · rw [if_neg c, if_neg (by rw [decide_eq_true_eq]; exact c)]; omega
theorem gmP_2 (S : gbS) (ba se i r : Int) : (gmP S ba se i r).2 = ceC S ba se i r S.1.length := by
  have h := gmF_2 (S := S) (ba := ba) (se := se) (i := i) (r := r) S.1.length 0 (0, 0) rfl
  rw [Nat.zero_add] at h
  exact h
theorem addM_len (g : List Int) (x : Int) : g.length ≤ (addM g x).length ∧ (addM g x).length ≤ g.length + 1 := by
  unfold addM
  split
  · omega
  · rw [List.length_append]; show _ ∧ g.length + 1 ≤ _; omega
theorem gmS_len {S : gbS} {ba se i r c : Int} {g : List Int} (h : 2 * (g.length : Int) + rmC S ba se i r S.1.length ≤ c) : 2 * ((gmS S ba se i r g).length : Int) + rmC S ba se i (r + 1) S.1.length ≤ c := by
  have h1 := rmC_s S ba se i r S.1.length
  have h2 := (cntB_bd (fun b => decide (gand (gshr se (b : Int)) 1 = 1 ∧ (b : Int) ≠ ba ∧ rdg S ba (b : Int) i = r)) S.1.length).1
  have h3 := addM_len g (gmP S ba se i r).1
  unfold gmS
  rw [gmP_2]
  unfold ceC at h1 ⊢
  split <;> omega
def gfR (V V' : Int → Int → Int) : Prop := (∀ a, a < 775 ∨ (775 < a ∧ a < 813) ∨ 817 < a → V' a = V a) ∧ ∀ k, k ≠ 62 → V' 775 k = V 775 k
theorem gfR.q {V V' : Int → Int → Int} (h : gfR V V') : qFr V V' := ⟨fun a ha => h.1 a (by omega), h.2 0 (by omega), h.2 16 (by omega), h.2 17 (by omega)⟩
theorem gfR.g {V V1 V2 : Int → Int → Int} (h : gfR V V1) (h2 : gFq V1 V2) : gfR V V2 := ⟨fun a ha => (h2.1 a (by omega) (by omega)).trans (h.1 a ha), fun k hk => (h2.2 k hk).trans (h.2 k hk)⟩
theorem rdI.g {V V2 : Int → Int → Int} {S : gbS} {ba se : Int} (h : rdI V S ba se) (h2 : gFq V V2) : rdI V2 S ba se := fun b i h0 h1 h3 h4 h5 => by rw [h2.1 816 (by omega) (by omega)]; exact h b i h0 h1 h3 h4 h5
section MD6
variable {l : Launch} {E : gE} {d : Nat} {K : List gK} {R V : Int → Int → Int} {a b i w ba se r : Int} {Q : gQ} {S : gbS}
set_option maxRecDepth 4000 in
theorem m_findGroups (hM : mdK K R) (hS : mdIs V S) (hr1 : 0 ≤ ba ∧ ba < S.1.length) (hQ : ∀ V', grI V' (rgL S ba se) → (rgL S ba se).length ≤ 160 → gfR V V' → Q none (K, R, V')) : gC l E (d + 5) iX12_findGroups [ga 775, gi ba, gi se] (K, R, V) Q := by
  refine gC_of kX12_findGroups (ls := [some (ga 775), some (gi ba), some (gi se), none, none, none, none, none, none]) rfl (Nat.le_of_ble_eq_true rfl) ?_
  have hn0 := hS.1
  have hn1 := hS.2.1
  have hk1 := (hS.2.2.2.1 ba hr1.1 hr1.2).1.tx
  rw [show (gbq S ba).1 = gbX S ba from rfl] at hk1
  have hq40 := hk1.2.1
  have li : ∀ (jj : Nat) (i : Int) (j4 : Option gV) (j5 : Option gV) (j6 : Option gV) (j7 : Option gV) (j8 : Option gV) (gr : List Int) (V2 : Int → Int → Int) (bc bs : Nat), ((gbX S ba).length : Int) - i < (jj : Int) → 0 ≤ i → i ≤ (gbX S ba).length → grI V2 gr → (gr.length : Int) ≤ 4 * i → rdI V2 S ba se → gfR V V2 → (∀ V' g2, g2 = rgF S ba se ((gbX S ba).length - i.toNat) i gr → grI V' g2 → g2.length ≤ 160 → gfR V V' → Q none (K, R, V')) → gX l E (gFm E (d + 5) iX12_findGroups Q) 13 [some (ga 775), some (gi ba), some (gi se), some (gi i), j4, j5, j6, j7, j8] [] (K, R, V2) bc bs := by
    intro jj
    induction jj with
    | zero =>
      intro i j4 j5 j6 j7 j8 gr V2 bc bs hj i0 i1 hg2 hb2 hd2 hf2 hq2
      exfalso; omega
    | succ jj ih =>
      intro i j4 j5 j6 j7 j8 gr V2 bc bs hj i0 i1 hg2 hb2 hd2 hf2 hq2
      refine gX_iloadn dX12_findGroups_13 rfl ?_
      refine gX_aloadn dX12_findGroups_14 rfl ?_
      refine gX_gR 1 dX12_findGroups_15 fdX12_7 rfl rfl hM.1 (mR1 hM) ?_
      refine gX_iloadn dX12_findGroups_18 rfl ?_
      refine gX_iald dX12_findGroups_19 (mA1 hM) (by omega) (by omega) ?_
      rw [show V2 776 ba = (gbX S ba).length by rw [hf2.1 776 (by omega)]; exact hk1.1]
      refine gX_icmpge (tgt := 170) dX12_findGroups_20 (by decide) (fun i1 => ?_) (fun i1 => ?_)
      · refine gX_vret dX12_findGroups_170 rfl ?_
        have ei : (gbX S ba).length - i.toNat = 0 := by omega
        rw [ei] at hq2
        exact hq2 V2 gr rfl hg2 (by omega) hf2
      · refine gX_iconst dX12_findGroups_23 ⟨by decide, by decide⟩ ?_
        refine gX_istore dX12_findGroups_24 (show (4 : Nat) < 9 from by decide) (ls2 := [some (ga 775), some (gi ba), some (gi se), some (gi i), some (gi (-1)), j5, j6, j7, j8]) rfl ?_
        have lr : ∀ (jj : Nat) (r : Int) (j5 : Option gV) (j6 : Option gV) (j7 : Option gV) (j8 : Option gV) (gr : List Int) (V3 : Int → Int → Int) (bc bs : Nat), (64 : Int) - r < (jj : Int) → -1 ≤ r → r ≤ 64 → grI V3 gr → 2 * (gr.length : Int) + rmC S ba se i r S.1.length ≤ 8 * i + 9 → rdI V3 S ba se → gfR V V3 → (∀ V' r2 j5 j6 j7 j8 bc bs g2, g2 = foldR (gmS S ba se i) (64 - r).toNat r gr → grI V' g2 → (g2.length : Int) ≤ 4 * i + 4 → rdI V' S ba se → gfR V V' → gX l E (gFm E (d + 5) iX12_findGroups Q) 164 [some (ga 775), some (gi ba), some (gi se), some (gi i), r2, j5, j6, j7, j8] [] (K, R, V') bc bs) → gX l E (gFm E (d + 5) iX12_findGroups Q) 26 [some (ga 775), some (gi ba), some (gi se), some (gi i), some (gi r), j5, j6, j7, j8] [] (K, R, V3) bc bs := by
          intro jj
          induction jj with
          | zero =>
            intro r j5 j6 j7 j8 gr V3 bc bs hj r0 r1 hg3 hb3 hd3 hf3 hk2
            exfalso; omega
          | succ jj ih =>
            intro r j5 j6 j7 j8 gr V3 bc bs hj r0 r1 hg3 hb3 hd3 hf3 hk2
            refine gX_iload dX12_findGroups_26 rfl ?_
            refine gX_bipush dX12_findGroups_28 (by decide) ⟨by decide, by decide⟩ ?_
            refine gX_icmpge (tgt := 164) dX12_findGroups_30 (by decide) (fun r1 => ?_) (fun r1 => ?_)
            · have ei : (64 - r).toNat = 0 := by omega
              rw [ei] at hk2
              have hr9 := rmC_9 (S := S) (ba := ba) (se := se) (i := i) (r := r) hn1 hr1
              exact hk2 V3 _ _ _ _ _ _ _ gr rfl hg3 (by omega) hd3 hf3
            · refine gX_iconst dX12_findGroups_33 ⟨by decide, by decide⟩ ?_
              refine gX_istore dX12_findGroups_34 (show (5 : Nat) < 9 from by decide) (ls2 := [some (ga 775), some (gi ba), some (gi se), some (gi i), some (gi r), some (gi 0), j6, j7, j8]) rfl ?_
              refine gX_iconst dX12_findGroups_36 ⟨by decide, by decide⟩ ?_
              refine gX_istore dX12_findGroups_37 (show (6 : Nat) < 9 from by decide) (ls2 := [some (ga 775), some (gi ba), some (gi se), some (gi i), some (gi r), some (gi 0), some (gi 0), j7, j8]) rfl ?_
              refine gX_iconst dX12_findGroups_39 ⟨by decide, by decide⟩ ?_
              refine gX_istore dX12_findGroups_40 (show (7 : Nat) < 9 from by decide) (ls2 := [some (ga 775), some (gi ba), some (gi se), some (gi i), some (gi r), some (gi 0), some (gi 0), some (gi 0), j8]) rfl ?_
              have lb : ∀ (jj : Nat) (b : Int) (g : Int) (m : Int) (j8 : Option gV) (bc bs : Nat), (S.1.length : Int) - b < (jj : Int) → 0 ≤ b → b ≤ S.1.length → 0 ≤ g ∧ g < 1024 → 0 ≤ m ∧ m ≤ b → (∀ g2 m2 b2 j8 bc bs, (g2, m2) = gmF S ba se i r (S.1.length - b.toNat) b (g, m) → 0 ≤ g2 ∧ g2 < 1024 → gX l E (gFm E (d + 5) iX12_findGroups Q) 130 [some (ga 775), some (gi ba), some (gi se), some (gi i), some (gi r), some (gi g2), some (gi m2), b2, j8] [] (K, R, V3) bc bs) → gX l E (gFm E (d + 5) iX12_findGroups Q) 42 [some (ga 775), some (gi ba), some (gi se), some (gi i), some (gi r), some (gi g), some (gi m), some (gi b), j8] [] (K, R, V3) bc bs := by
                intro jj
                induction jj with
                | zero =>
                  intro b g m j8 bc bs hj b0 b1 hg9 hm9 hk3
                  exfalso; omega
                | succ jj ih =>
                  intro b g m j8 bc bs hj b0 b1 hg9 hm9 hk3
                  refine gX_iload dX12_findGroups_42 rfl ?_
                  refine gX_aloadn dX12_findGroups_44 rfl ?_
                  refine gX_gI 0 dX12_findGroups_45 fdX12_151 rfl (Or.inl rfl) hM.1 ?_
                  rw [show V3 775 0 = (S.1.length : Int) by rw [hf3.2 0 (by omega)]; exact hS.1]
                  refine gX_icmpge (tgt := 130) dX12_findGroups_48 (by decide) (fun b1 => ?_) (fun b1 => ?_)
                  · have ei : S.1.length - b.toNat = 0 := by omega
                    rw [ei] at hk3
                    exact hk3 g m _ _ _ _ rfl hg9
                  · refine gX_iloadn dX12_findGroups_51 rfl ?_
                    refine gX_iload dX12_findGroups_52 rfl ?_
                    refine gX_ishr dX12_findGroups_54 ?_
                    refine gX_iconst dX12_findGroups_55 ⟨by decide, by decide⟩ ?_
                    refine gX_iand dX12_findGroups_56 ?_
                    refine gX_iconst dX12_findGroups_57 ⟨by decide, by decide⟩ ?_
                    refine gX_icmpne (tgt := 88) dX12_findGroups_58 (by decide) (fun b2 => ?_) (fun b2 => ?_)
                    · refine gX_iconst dX12_findGroups_88 ⟨by decide, by decide⟩ ?_
                      refine gX_istore dX12_findGroups_89 (show (8 : Nat) < 9 from by decide) (ls2 := [some (ga 775), some (gi ba), some (gi se), some (gi i), some (gi r), some (gi g), some (gi m), some (gi b), some (gi 0)]) rfl ?_
                      refine gX_iload dX12_findGroups_91 rfl ?_
                      refine gX_iload dX12_findGroups_93 rfl ?_
                      refine gX_ifeq (tgt := 105) dX12_findGroups_95 (by decide) (fun b3 => ?_) (fun b3 => by exfalso; omega)
                      refine gX_iconst dX12_findGroups_105 ⟨by decide, by decide⟩ ?_
                      refine gX_ior dX12_findGroups_106 ?_
                      rw [gor_z hg9]
                      refine gX_istore dX12_findGroups_107 (show (5 : Nat) < 9 from by decide) (ls2 := [some (ga 775), some (gi ba), some (gi se), some (gi i), some (gi r), some (gi g), some (gi m), some (gi b), some (gi 0)]) rfl ?_
                      refine gX_iload dX12_findGroups_109 rfl ?_
                      refine gX_iload dX12_findGroups_111 rfl ?_
                      refine gX_ifeq (tgt := 120) dX12_findGroups_113 (by decide) (fun b4 => ?_) (fun b4 => by exfalso; omega)
                      refine gX_iconst dX12_findGroups_120 ⟨by decide, by decide⟩ ?_
                      refine gX_iadd dX12_findGroups_121 ⟨by omega, by omega⟩ ?_
                      refine gX_istore dX12_findGroups_122 (show (6 : Nat) < 9 from by decide) (ls2 := [some (ga 775), some (gi ba), some (gi se), some (gi i), some (gi r), some (gi g), some (gi (m + 0)), some (gi b), some (gi 0)]) rfl ?_
                      refine gX_iinc dX12_findGroups_124 rfl (show (7 : Nat) < 9 from by decide) ⟨by omega, by omega⟩ (ls2 := [some (ga 775), some (gi ba), some (gi se), some (gi i), some (gi r), some (gi g), some (gi (m + 0)), some (gi (b + 1)), some (gi 0)]) rfl ?_
                      refine gX_goto (tgt := 42) dX12_findGroups_127 (by decide) ?_
                      have ek : S.1.length - b.toNat = (S.1.length - (b + 1).toNat) + 1 := by omega
                      have e1 : gmF S ba se i r (S.1.length - b.toNat) b (g, m) = gmF S ba se i r (S.1.length - (b + 1).toNat) (b + 1) (g, m) := by
                        rw [ek]
                        show gmF S ba se i r _ _ (if _ then _ else _) = _
                        rw [if_neg (by rintro ⟨z1, z2, z3⟩; omega)]
                      rw [e1] at hk3
                      exact ih (b + 1) _ _ _ _ _ (by omega) (by omega) (by omega) hg9 (by omega) (by rw [show m + 0 = m by omega]; exact hk3)
                    · refine gX_iload dX12_findGroups_61 rfl ?_
                      refine gX_iloadn dX12_findGroups_63 rfl ?_
                      refine gX_icmpeq (tgt := 88) dX12_findGroups_64 (by decide) (fun b5 => ?_) (fun b5 => ?_)
                      · refine gX_iconst dX12_findGroups_88 ⟨by decide, by decide⟩ ?_
                        refine gX_istore dX12_findGroups_89 (show (8 : Nat) < 9 from by decide) (ls2 := [some (ga 775), some (gi ba), some (gi se), some (gi i), some (gi r), some (gi g), some (gi m), some (gi b), some (gi 0)]) rfl ?_
                        refine gX_iload dX12_findGroups_91 rfl ?_
                        refine gX_iload dX12_findGroups_93 rfl ?_
                        refine gX_ifeq (tgt := 105) dX12_findGroups_95 (by decide) (fun b6 => ?_) (fun b6 => by exfalso; omega)
                        refine gX_iconst dX12_findGroups_105 ⟨by decide, by decide⟩ ?_
                        refine gX_ior dX12_findGroups_106 ?_
                        rw [gor_z hg9]
                        refine gX_istore dX12_findGroups_107 (show (5 : Nat) < 9 from by decide) (ls2 := [some (ga 775), some (gi ba), some (gi se), some (gi i), some (gi r), some (gi g), some (gi m), some (gi b), some (gi 0)]) rfl ?_
                        refine gX_iload dX12_findGroups_109 rfl ?_
                        refine gX_iload dX12_findGroups_111 rfl ?_
                        refine gX_ifeq (tgt := 120) dX12_findGroups_113 (by decide) (fun b7 => ?_) (fun b7 => by exfalso; omega)
                        refine gX_iconst dX12_findGroups_120 ⟨by decide, by decide⟩ ?_
                        refine gX_iadd dX12_findGroups_121 ⟨by omega, by omega⟩ ?_
                        refine gX_istore dX12_findGroups_122 (show (6 : Nat) < 9 from by decide) (ls2 := [some (ga 775), some (gi ba), some (gi se), some (gi i), some (gi r), some (gi g), some (gi (m + 0)), some (gi b), some (gi 0)]) rfl ?_
                        refine gX_iinc dX12_findGroups_124 rfl (show (7 : Nat) < 9 from by decide) ⟨by omega, by omega⟩ (ls2 := [some (ga 775), some (gi ba), some (gi se), some (gi i), some (gi r), some (gi g), some (gi (m + 0)), some (gi (b + 1)), some (gi 0)]) rfl ?_
                        refine gX_goto (tgt := 42) dX12_findGroups_127 (by decide) ?_
                        have ek : S.1.length - b.toNat = (S.1.length - (b + 1).toNat) + 1 := by omega
                        have e1 : gmF S ba se i r (S.1.length - b.toNat) b (g, m) = gmF S ba se i r (S.1.length - (b + 1).toNat) (b + 1) (g, m) := by
                          rw [ek]
                          show gmF S ba se i r _ _ (if _ then _ else _) = _
                          rw [if_neg (by rintro ⟨z1, z2, z3⟩; omega)]
                        rw [e1] at hk3
                        exact ih (b + 1) _ _ _ _ _ (by omega) (by omega) (by omega) hg9 (by omega) (by rw [show m + 0 = m by omega]; exact hk3)
                      · refine gX_aloadn dX12_findGroups_67 rfl ?_
                        refine gX_gR 60 dX12_findGroups_68 fdX12_135 rfl rfl hM.1 (mR60 hM) ?_
                        refine gX_bipush dX12_findGroups_71 (by decide) ⟨by decide, by decide⟩ ?_
                        refine gX_iload dX12_findGroups_73 rfl ?_
                        refine gX_imul dX12_findGroups_75 ⟨by omega, by omega⟩ ?_
                        refine gX_iloadn dX12_findGroups_76 rfl ?_
                        refine gX_iadd dX12_findGroups_77 ⟨by omega, by omega⟩ ?_
                        refine gX_iald dX12_findGroups_78 (mA60 hM) (by omega) (by omega) ?_
                        rw [hd3 b i (by omega) (by omega) (Or.inr (by assumption)) (by omega) (by omega)]
                        refine gX_iload dX12_findGroups_79 rfl ?_
                        refine gX_icmpne (tgt := 88) dX12_findGroups_81 (by decide) (fun b8 => ?_) (fun b8 => ?_)
                        · refine gX_iconst dX12_findGroups_88 ⟨by decide, by decide⟩ ?_
                          refine gX_istore dX12_findGroups_89 (show (8 : Nat) < 9 from by decide) (ls2 := [some (ga 775), some (gi ba), some (gi se), some (gi i), some (gi r), some (gi g), some (gi m), some (gi b), some (gi 0)]) rfl ?_
                          refine gX_iload dX12_findGroups_91 rfl ?_
                          refine gX_iload dX12_findGroups_93 rfl ?_
                          refine gX_ifeq (tgt := 105) dX12_findGroups_95 (by decide) (fun b9 => ?_) (fun b9 => by exfalso; omega)
                          refine gX_iconst dX12_findGroups_105 ⟨by decide, by decide⟩ ?_
                          refine gX_ior dX12_findGroups_106 ?_
                          rw [gor_z hg9]
                          refine gX_istore dX12_findGroups_107 (show (5 : Nat) < 9 from by decide) (ls2 := [some (ga 775), some (gi ba), some (gi se), some (gi i), some (gi r), some (gi g), some (gi m), some (gi b), some (gi 0)]) rfl ?_
                          refine gX_iload dX12_findGroups_109 rfl ?_
                          refine gX_iload dX12_findGroups_111 rfl ?_
                          refine gX_ifeq (tgt := 120) dX12_findGroups_113 (by decide) (fun b10 => ?_) (fun b10 => by exfalso; omega)
                          refine gX_iconst dX12_findGroups_120 ⟨by decide, by decide⟩ ?_
                          refine gX_iadd dX12_findGroups_121 ⟨by omega, by omega⟩ ?_
                          refine gX_istore dX12_findGroups_122 (show (6 : Nat) < 9 from by decide) (ls2 := [some (ga 775), some (gi ba), some (gi se), some (gi i), some (gi r), some (gi g), some (gi (m + 0)), some (gi b), some (gi 0)]) rfl ?_
                          refine gX_iinc dX12_findGroups_124 rfl (show (7 : Nat) < 9 from by decide) ⟨by omega, by omega⟩ (ls2 := [some (ga 775), some (gi ba), some (gi se), some (gi i), some (gi r), some (gi g), some (gi (m + 0)), some (gi (b + 1)), some (gi 0)]) rfl ?_
                          refine gX_goto (tgt := 42) dX12_findGroups_127 (by decide) ?_
                          have ek : S.1.length - b.toNat = (S.1.length - (b + 1).toNat) + 1 := by omega
                          have e1 : gmF S ba se i r (S.1.length - b.toNat) b (g, m) = gmF S ba se i r (S.1.length - (b + 1).toNat) (b + 1) (g, m) := by
                            rw [ek]
                            show gmF S ba se i r _ _ (if _ then _ else _) = _
                            rw [if_neg (by rintro ⟨z1, z2, z3⟩; omega)]
                          rw [e1] at hk3
                          exact ih (b + 1) _ _ _ _ _ (by omega) (by omega) (by omega) hg9 (by omega) (by rw [show m + 0 = m by omega]; exact hk3)
                        · refine gX_iconst dX12_findGroups_84 ⟨by decide, by decide⟩ ?_
                          refine gX_goto (tgt := 89) dX12_findGroups_85 (by decide) ?_
                          refine gX_istore dX12_findGroups_89 (show (8 : Nat) < 9 from by decide) (ls2 := [some (ga 775), some (gi ba), some (gi se), some (gi i), some (gi r), some (gi g), some (gi m), some (gi b), some (gi 1)]) rfl ?_
                          refine gX_iload dX12_findGroups_91 rfl ?_
                          refine gX_iload dX12_findGroups_93 rfl ?_
                          refine gX_ifeq (tgt := 105) dX12_findGroups_95 (by decide) (fun b11 => by exfalso; omega) (fun b11 => ?_)
                          refine gX_iconst dX12_findGroups_98 ⟨by decide, by decide⟩ ?_
                          refine gX_iload dX12_findGroups_99 rfl ?_
                          refine gX_ishl dX12_findGroups_101 ?_
                          refine gX_goto (tgt := 106) dX12_findGroups_102 (by decide) ?_
                          refine gX_ior dX12_findGroups_106 ?_
                          refine gX_istore dX12_findGroups_107 (show (5 : Nat) < 9 from by decide) (ls2 := [some (ga 775), some (gi ba), some (gi se), some (gi i), some (gi r), some (gi (gor g (gshl 1 b))), some (gi m), some (gi b), some (gi 1)]) rfl ?_
                          refine gX_iload dX12_findGroups_109 rfl ?_
                          refine gX_iload dX12_findGroups_111 rfl ?_
                          refine gX_ifeq (tgt := 120) dX12_findGroups_113 (by decide) (fun b12 => by exfalso; omega) (fun b12 => ?_)
                          refine gX_iconst dX12_findGroups_116 ⟨by decide, by decide⟩ ?_
                          refine gX_goto (tgt := 121) dX12_findGroups_117 (by decide) ?_
                          refine gX_iadd dX12_findGroups_121 ⟨by omega, by omega⟩ ?_
                          refine gX_istore dX12_findGroups_122 (show (6 : Nat) < 9 from by decide) (ls2 := [some (ga 775), some (gi ba), some (gi se), some (gi i), some (gi r), some (gi (gor g (gshl 1 b))), some (gi (m + 1)), some (gi b), some (gi 1)]) rfl ?_
                          refine gX_iinc dX12_findGroups_124 rfl (show (7 : Nat) < 9 from by decide) ⟨by omega, by omega⟩ (ls2 := [some (ga 775), some (gi ba), some (gi se), some (gi i), some (gi r), some (gi (gor g (gshl 1 b))), some (gi (m + 1)), some (gi (b + 1)), some (gi 1)]) rfl ?_
                          refine gX_goto (tgt := 42) dX12_findGroups_127 (by decide) ?_
                          have ek : S.1.length - b.toNat = (S.1.length - (b + 1).toNat) + 1 := by omega
                          have hgl := gor_lt (m := g) (b := b) hg9 ⟨by omega, by omega⟩
                          have e1 : gmF S ba se i r (S.1.length - b.toNat) b (g, m) = gmF S ba se i r (S.1.length - (b + 1).toNat) (b + 1) (gor g (gshl 1 b), m + 1) := by
                            rw [ek]
                            show gmF S ba se i r _ _ (if _ then _ else _) = _
                            rw [if_pos ⟨by omega, by omega, by omega⟩]
                          rw [e1] at hk3
                          exact ih (b + 1) _ _ _ _ _ (by omega) (by omega) (by omega) hgl (by omega) hk3
              refine lb (S.1.length + 1) 0 0 0 _ _ _ (by omega) (by omega) (by omega) (by omega) (by omega) (fun g2 m2 b2 j8 bc bs egm hg2 => ?_)
              have eg2 : g2 = (gmP S ba se i r).1 := congrArg Prod.fst egm
              have em2 : m2 = (gmP S ba se i r).2 := congrArg Prod.snd egm
              have hr9 := rmC_9 (S := S) (ba := ba) (se := se) (i := i) (r := r) hn1 hr1
              refine gX_iload dX12_findGroups_130 rfl ?_
              refine gX_iconst dX12_findGroups_132 ⟨by decide, by decide⟩ ?_
              refine gX_icmple (tgt := 158) dX12_findGroups_133 (by decide) (fun v1 => ?_) (fun v1 => ?_)
              · refine gX_iinc dX12_findGroups_158 rfl (show (4 : Nat) < 9 from by decide) ⟨by omega, by omega⟩ (ls2 := [some (ga 775), some (gi ba), some (gi se), some (gi i), some (gi (r + 1)), some (gi g2), some (gi m2), b2, j8]) rfl ?_
                refine gX_goto (tgt := 26) dX12_findGroups_161 (by decide) ?_
                have ek : (64 - r).toNat = (64 - (r + 1)).toNat + 1 := by omega
                have e2 : gmS S ba se i r gr = gr := by
                  unfold gmS
                  rw [if_neg (by rintro ⟨z1, z2⟩; omega)]
                have e1 : foldR (gmS S ba se i) (64 - r).toNat r gr = foldR (gmS S ba se i) (64 - (r + 1)).toNat (r + 1) gr := by
                  rw [ek]
                  show foldR _ _ _ (gmS S ba se i r gr) = _
                  rw [e2]
                rw [e1] at hk2
                have hl9 := gmS_len hb3
                rw [e2] at hl9
                exact ih (r + 1) _ _ _ _ gr V3 _ _ (by omega) (by omega) (by omega) hg3 hl9 hd3 hf3 hk2
              · refine gX_iload dX12_findGroups_136 rfl ?_
                refine gX_aloadn dX12_findGroups_138 rfl ?_
                refine gX_gR 2 dX12_findGroups_139 fdX12_13 rfl rfl hM.1 (mR2 hM) ?_
                refine gX_bipush dX12_findGroups_142 (by decide) ⟨by decide, by decide⟩ ?_
                refine gX_iloadn dX12_findGroups_144 rfl ?_
                refine gX_imul dX12_findGroups_145 ⟨by omega, by omega⟩ ?_
                refine gX_iloadn dX12_findGroups_146 rfl ?_
                refine gX_iadd dX12_findGroups_147 ⟨by omega, by omega⟩ ?_
                refine gX_iald dX12_findGroups_148 (mA2 hM) (by omega) (by omega) ?_
                rw [show V3 777 (40 * ba + i) = lat (gbX S ba) i by rw [hf3.1 777 (by omega)]; exact hk1.2.2 i (by omega) (by omega)]
                refine gX_icmpeq (tgt := 158) dX12_findGroups_149 (by decide) (fun v2 => ?_) (fun v2 => ?_)
                · refine gX_iinc dX12_findGroups_158 rfl (show (4 : Nat) < 9 from by decide) ⟨by omega, by omega⟩ (ls2 := [some (ga 775), some (gi ba), some (gi se), some (gi i), some (gi (r + 1)), some (gi g2), some (gi m2), b2, j8]) rfl ?_
                  refine gX_goto (tgt := 26) dX12_findGroups_161 (by decide) ?_
                  have ek : (64 - r).toNat = (64 - (r + 1)).toNat + 1 := by omega
                  have e2 : gmS S ba se i r gr = gr := by
                    unfold gmS
                    rw [if_neg (by rintro ⟨z1, z2⟩; omega)]
                  have e1 : foldR (gmS S ba se i) (64 - r).toNat r gr = foldR (gmS S ba se i) (64 - (r + 1)).toNat (r + 1) gr := by
                    rw [ek]
                    show foldR _ _ _ (gmS S ba se i r gr) = _
                    rw [e2]
                  rw [e1] at hk2
                  have hl9 := gmS_len hb3
                  rw [e2] at hl9
                  exact ih (r + 1) _ _ _ _ gr V3 _ _ (by omega) (by omega) (by omega) hg3 hl9 hd3 hf3 hk2
                · refine gX_aloadn dX12_findGroups_152 rfl ?_
                  refine gX_iload dX12_findGroups_153 rfl ?_
                  refine gX_virt (J := iX12_addGroup) (av := [gi g2]) (a := 775) (st := []) dX12_findGroups_155 lkX12_443 kX12_addGroup vX12_addGroup (gFit_m (by decide)) hM.1 rfl rfl (Nat.le_of_ble_eq_true rfl) (Nat.zero_le _) (Nat.zero_le _) rfl ?_
                  refine m_addGroup hM hg3 (by omega) (fun V4 hg4 hf4 => ?_)
                  show gX l E _ 158 [some (ga 775), some (gi ba), some (gi se), some (gi i), some (gi r), some (gi g2), some (gi m2), b2, j8] [] (K, R, V4) _ _
                  refine gX_iinc dX12_findGroups_158 rfl (show (4 : Nat) < 9 from by decide) ⟨by omega, by omega⟩ (ls2 := [some (ga 775), some (gi ba), some (gi se), some (gi i), some (gi (r + 1)), some (gi g2), some (gi m2), b2, j8]) rfl ?_
                  refine gX_goto (tgt := 26) dX12_findGroups_161 (by decide) ?_
                  have ek : (64 - r).toNat = (64 - (r + 1)).toNat + 1 := by omega
                  have e2 : gmS S ba se i r gr = addM gr g2 := by
                    unfold gmS
                    rw [if_pos ⟨by omega, by omega⟩, ← eg2]
                  have e1 : foldR (gmS S ba se i) (64 - r).toNat r gr = foldR (gmS S ba se i) (64 - (r + 1)).toNat (r + 1) (addM gr g2) := by
                    rw [ek]
                    show foldR _ _ _ (gmS S ba se i r gr) = _
                    rw [e2]
                  rw [e1] at hk2
                  have hl9 := gmS_len hb3
                  rw [e2] at hl9
                  exact ih (r + 1) _ _ _ _ _ V4 _ _ (by omega) (by omega) (by omega) hg4 hl9 (hd3.g hf4) (hf3.g hf4) hk2
        have hr9 := rmC_9 (S := S) (ba := ba) (se := se) (i := i) (r := -1) hn1 hr1
        refine lr 66 (-1) _ _ _ _ gr V2 _ _ (by omega) (by omega) (by omega) hg2 (by omega) hd2 hf2 (fun V5 r2 j5 j6 j7 j8 bc bs g5 eg5 hg5 hl5 hd5 hf5 => ?_)
        refine gX_iinc dX12_findGroups_164 rfl (show (3 : Nat) < 9 from by decide) ⟨by omega, by omega⟩ (ls2 := [some (ga 775), some (gi ba), some (gi se), some (gi (i + 1)), r2, j5, j6, j7, j8]) rfl ?_
        refine gX_goto (tgt := 13) dX12_findGroups_167 (by decide) ?_
        have ek : (gbX S ba).length - i.toNat = ((gbX S ba).length - (i + 1).toNat) + 1 := by omega
        have e1 : rgF S ba se ((gbX S ba).length - i.toNat) i gr = rgF S ba se ((gbX S ba).length - (i + 1).toNat) (i + 1) g5 := by
          rw [ek, eg5]
          rfl
        rw [e1] at hq2
        exact ih (i + 1) _ _ _ _ _ g5 V5 _ _ (by omega) (by omega) (by omega) hg5 (by omega) hd5 hf5 hq2
  refine gX_aloadn dX12_findGroups_0 rfl ?_
  refine gX_iloadn dX12_findGroups_1 rfl ?_
  refine gX_iloadn dX12_findGroups_2 rfl ?_
  refine gX_virt (J := iX12_findReadings) (av := [gi ba, gi se]) (a := 775) (st := []) dX12_findGroups_3 lkX12_428 kX12_findReadings vX12_findReadings (gFit_m (by decide)) hM.1 rfl rfl (Nat.le_of_ble_eq_true rfl) (Nat.zero_le _) (Nat.zero_le _) rfl ?_
  refine m_findReadings hM hS hr1 (fun V1 hc1 hf1 => ?_)
  show gX l E _ 6 [some (ga 775), some (gi ba), some (gi se), none, none, none, none, none, none] [] (K, R, V1) _ _
  refine gX_aloadn dX12_findGroups_6 rfl ?_
  refine gX_iconst dX12_findGroups_7 ⟨by decide, by decide⟩ ?_
  refine gX_pI 62 dX12_findGroups_8 fdX12_440 fpX12_440 rfl (Or.inl rfl) hM.1 ?_
  refine gX_iconst dX12_findGroups_11 ⟨by decide, by decide⟩ ?_
  refine gX_istoren dX12_findGroups_12 (show (3 : Nat) < 9 from by decide) (ls2 := [some (ga 775), some (gi ba), some (gi se), some (gi 0), none, none, none, none, none]) rfl ?_
  exact li ((gbX S ba).length + 1) 0 none none none none none [] _ _ _ (by omega) (by omega) (by omega) ⟨gup_s, fun k z0 z1 => absurd z1 (by show ¬ k < ((0 : Nat) : Int); omega)⟩ (by exact Int.le_refl _) (fun b i h0 h1 h3 h4 h5 => by rw [gup_ne (by omega)]; exact hc1 b i h0 h1 h3 h4 h5) ⟨fun a ha => by rw [gup_ne (by omega)]; exact hf1 a (by omega), fun k hk => by rw [gup_k hk, hf1 775 (by omega)]⟩ (fun V9 g9 e9 h1 h2 h3 => hQ V9 (by rw [e9] at h1; exact h1) (by rw [e9] at h2; exact h2) h3)
set_option maxRecDepth 4000 in
theorem m_clashing {x y : Int} (hQ : Q (some (gi (b2i (cla x y)))) (K, R, V)) : gC l E (d + 1) iX12_areClashing [gi x, gi y] (K, R, V) Q := by
  refine gC_of kX12_areClashing (ls := [some (gi x), some (gi y)]) rfl (Nat.le_of_ble_eq_true rfl) ?_
  refine gX_iloadn dX12_areClashing_0 rfl ?_
  refine gX_iloadn dX12_areClashing_1 rfl ?_
  refine gX_iand dX12_areClashing_2 ?_
  refine gX_ifeq (tgt := 26) dX12_areClashing_3 (by decide) (fun w1 => ?_) (fun w1 => ?_)
  · refine gX_iconst dX12_areClashing_26 ⟨by decide, by decide⟩ ?_
    refine gX_iret dX12_areClashing_27 (Or.inr ⟨rfl, Or.inl rfl⟩) ?_
    have ec : cla x y = false := by unfold cla; simp only [decide_eq_true_eq, decide_eq_false_iff_not]; omega
    rw [ec] at hQ
    exact hQ
  · refine gX_iloadn dX12_areClashing_6 rfl ?_
    refine gX_iloadn dX12_areClashing_7 rfl ?_
    refine gX_iconst dX12_areClashing_8 ⟨by decide, by decide⟩ ?_
    refine gX_ixor dX12_areClashing_9 ?_
    refine gX_iand dX12_areClashing_10 ?_
    refine gX_ifeq (tgt := 26) dX12_areClashing_11 (by decide) (fun w2 => ?_) (fun w2 => ?_)
    · refine gX_iconst dX12_areClashing_26 ⟨by decide, by decide⟩ ?_
      refine gX_iret dX12_areClashing_27 (Or.inr ⟨rfl, Or.inl rfl⟩) ?_
      have ec : cla x y = false := by unfold cla; simp only [decide_eq_true_eq, decide_eq_false_iff_not]; omega
      rw [ec] at hQ
      exact hQ
    · refine gX_iloadn dX12_areClashing_14 rfl ?_
      refine gX_iloadn dX12_areClashing_15 rfl ?_
      refine gX_iconst dX12_areClashing_16 ⟨by decide, by decide⟩ ?_
      refine gX_ixor dX12_areClashing_17 ?_
      refine gX_iand dX12_areClashing_18 ?_
      refine gX_ifeq (tgt := 26) dX12_areClashing_19 (by decide) (fun w3 => ?_) (fun w3 => ?_)
      · refine gX_iconst dX12_areClashing_26 ⟨by decide, by decide⟩ ?_
        refine gX_iret dX12_areClashing_27 (Or.inr ⟨rfl, Or.inl rfl⟩) ?_
        have ec : cla x y = false := by unfold cla; simp only [decide_eq_true_eq, decide_eq_false_iff_not]; omega
        rw [ec] at hQ
        exact hQ
      · refine gX_iconst dX12_areClashing_22 ⟨by decide, by decide⟩ ?_
        refine gX_goto (tgt := 27) dX12_areClashing_23 (by decide) ?_
        refine gX_iret dX12_areClashing_27 (Or.inr ⟨rfl, Or.inr rfl⟩) ?_
        have ec : cla x y = true := by unfold cla; simp only [decide_eq_true_eq, decide_eq_false_iff_not]; omega
        rw [ec] at hQ
        exact hQ
set_option maxRecDepth 4000 in
theorem m_group (hM : mdK K R) (hS : mdIs V S) (hse : in32 se) (hgq : 0 ≤ ba ∧ ba < S.1.length → 0 ≤ se ∧ se < ((2 ^ S.1.length : Nat) : Int) → rgL S ba se = grpL S ba se) (hQ : ∀ V', qFr V V' → Q (some (gi (aGroup S ba se i))) (K, R, V')) : gC l E (d + 6) iX12_group [ga 775, gi ba, gi se, gi i] (K, R, V) Q := by
  refine gC_of kX12_group (ls := [some (ga 775), some (gi ba), some (gi se), some (gi i)]) rfl (Nat.le_of_ble_eq_true rfl) ?_
  have hn0 := hS.1
  have hn1 := hS.2.1
  have hgp := gshl_pw hn1
  have hp2 := p2_le hn1
  refine gX_aloadn dX12_group_0 rfl ?_
  refine gX_iloadn dX12_group_1 rfl ?_
  refine gX_virt (J := iX12_isBook) (av := [gi ba]) (a := 775) (st := []) dX12_group_2 lkX12_371 kX12_isBook vX12_isBook (gFit_m (by decide)) hM.1 rfl rfl (Nat.le_of_ble_eq_true rfl) (Nat.zero_le _) (Nat.zero_le _) rfl ?_
  refine m_isBook hM hS.1 hS.2.1 ?_
  show gX l E _ 5 [some (ga 775), some (gi ba), some (gi se), some (gi i)] [gi (b2i (inR ba 0 ((S.1.length : Int) - 1)))] (K, R, V) _ _
  refine gX_ifeq (tgt := 16) dX12_group_5 (by decide) (fun w1 => ?_) (fun w1 => ?_)
  · have w1 := inR_0 w1
    refine gX_sipush dX12_group_16 (by decide) ⟨by decide, by decide⟩ ?_
    refine gX_iret dX12_group_19 (Or.inl rfl) ?_
    have ea : aGroup S ba se i = -1001 := by
      unfold aGroup
      rw [if_neg (by rintro ⟨z1, z2⟩; have z3 := (isS_iff hn1 hse).mp z2; omega)]
    rw [ea] at hQ
    exact hQ V qFr.rf
  · have w1 := inR_1 w1
    refine gX_aloadn dX12_group_8 rfl ?_
    refine gX_iloadn dX12_group_9 rfl ?_
    refine gX_virt (J := iX12_areBooks) (av := [gi se]) (a := 775) (st := []) dX12_group_10 lkX12_434 kX12_areBooks vX12_areBooks (gFit_m (by decide)) hM.1 rfl rfl (Nat.le_of_ble_eq_true rfl) (Nat.zero_le _) (Nat.zero_le _) rfl ?_
    refine m_areBooks hM hS.1 hS.2.1 ?_
    show gX l E _ 13 [some (ga 775), some (gi ba), some (gi se), some (gi i)] [gi (b2i (inR se 0 (gshl 1 (S.1.length : Int) - 1)))] (K, R, V) _ _
    refine gX_ifne (tgt := 20) dX12_group_13 (by decide) (fun w2 => ?_) (fun w2 => ?_)
    · have w2 := inR_1 w2
      have hr1 : 0 ≤ ba ∧ ba < S.1.length := ⟨by omega, by omega⟩
      have hk1 := (hS.2.2.2.1 ba hr1.1 hr1.2).1.tx
      rw [show (gbq S ba).1 = gbX S ba from rfl] at hk1
      have hq40 := hk1.2.1
      have hss : 0 ≤ se ∧ se < ((2 ^ S.1.length : Nat) : Int) := ⟨by omega, by omega⟩
      have heq := hgq hr1 hss
      refine gX_aloadn dX12_group_20 rfl ?_
      refine gX_iloadn dX12_group_21 rfl ?_
      refine gX_iloadn dX12_group_22 rfl ?_
      refine gX_virt (J := iX12_findGroups) (av := [gi ba, gi se]) (a := 775) (st := []) dX12_group_23 lkX12_446 kX12_findGroups vX12_findGroups (gFit_m (by decide)) hM.1 rfl rfl (Nat.le_of_ble_eq_true rfl) (Nat.zero_le _) (Nat.zero_le _) rfl ?_
      refine m_findGroups hM hS hr1 (fun V1 hg1 hl1 hf1 => ?_)
      show gX l E _ 26 [some (ga 775), some (gi ba), some (gi se), some (gi i)] [] (K, R, V1) _ _
      refine gX_iloadn dX12_group_26 rfl ?_
      refine gX_iconst dX12_group_27 ⟨by decide, by decide⟩ ?_
      refine gX_icmpne (tgt := 38) dX12_group_28 (by decide) (fun w3 => ?_) (fun w3 => ?_)
      · refine gX_iloadn dX12_group_38 rfl ?_
        refine gX_i2l dX12_group_39 ?_
        refine gX_lconst (x := 0) dX12_group_40 (by decide) ⟨by decide, by decide⟩ ?_
        refine gX_aloadn dX12_group_41 rfl ?_
        refine gX_gI 62 dX12_group_42 fdX12_440 rfl (Or.inl rfl) hM.1 ?_
        rw [hg1.1]
        refine gX_iconst dX12_group_45 ⟨by decide, by decide⟩ ?_
        refine gX_isub dX12_group_46 ⟨by omega, by omega⟩ ?_
        refine gX_i2l dX12_group_47 ?_
        refine gX_stat (J := iX12_in) (av := [gl i, gl 0, gl (((rgL S ba se).length : Int) - 1)]) (st := []) dX12_group_48 lkX12_154 kX12_in sX12_in (gFit_m (by decide)) rfl (Nat.le_of_ble_eq_true rfl) (Nat.zero_le _) (Nat.zero_le _) rfl ?_
        refine m_in ?_
        show gX l E _ 51 [some (ga 775), some (gi ba), some (gi se), some (gi i)] [gi (b2i (inR i 0 (((rgL S ba se).length : Int) - 1)))] (K, R, V1) _ _
        refine gX_ifeq (tgt := 63) dX12_group_51 (by decide) (fun w4 => ?_) (fun w4 => ?_)
        · have w4 := inR_0 w4
          refine gX_iconst dX12_group_63 ⟨by decide, by decide⟩ ?_
          refine gX_iret dX12_group_64 (Or.inl rfl) ?_
          have ea : aGroup S ba se i = -1 := by
            unfold aGroup
            rw [if_pos ⟨hr1, (isS_iff hn1 hse).mpr hss⟩, ← heq]
            unfold lni
            rw [if_neg (by omega)]
            exact lat_out (by omega)
          rw [ea] at hQ
          exact hQ V1 hf1.q
        · have w4 := inR_1 w4
          refine gX_aloadn dX12_group_54 rfl ?_
          refine gX_gR 61 dX12_group_55 fdX12_138 rfl rfl hM.1 (mR61 hM) ?_
          refine gX_iloadn dX12_group_58 rfl ?_
          refine gX_iald dX12_group_59 (mA61 hM) (by omega) (by omega) ?_
          rw [hg1.2 i (by omega) (by omega)]
          refine gX_goto (tgt := 64) dX12_group_60 (by decide) ?_
          refine gX_iret dX12_group_64 (Or.inl rfl) ?_
          have ea : aGroup S ba se i = lat (rgL S ba se) i := by
            unfold aGroup
            rw [if_pos ⟨hr1, (isS_iff hn1 hse).mpr hss⟩, ← heq]
            unfold lni
            rw [if_neg (by omega)]
          rw [ea] at hQ
          exact hQ V1 hf1.q
      · refine gX_aloadn dX12_group_31 rfl ?_
        refine gX_gI 62 dX12_group_32 fdX12_440 rfl (Or.inl rfl) hM.1 ?_
        rw [hg1.1]
        refine gX_goto (tgt := 64) dX12_group_35 (by decide) ?_
        refine gX_iret dX12_group_64 (Or.inl rfl) ?_
        have ea : aGroup S ba se i = ((rgL S ba se).length : Int) := by
          unfold aGroup
          rw [if_pos ⟨hr1, (isS_iff hn1 hse).mpr hss⟩, ← heq]
          unfold lni
          rw [if_pos (by omega)]
        rw [ea] at hQ
        exact hQ V1 hf1.q
    · have w2 := inR_0 w2
      refine gX_sipush dX12_group_16 (by decide) ⟨by decide, by decide⟩ ?_
      refine gX_iret dX12_group_19 (Or.inl rfl) ?_
      have ea : aGroup S ba se i = -1001 := by
        unfold aGroup
        rw [if_neg (by rintro ⟨z1, z2⟩; have z3 := (isS_iff hn1 hse).mp z2; omega)]
      rw [ea] at hQ
      exact hQ V qFr.rf
end MD6
