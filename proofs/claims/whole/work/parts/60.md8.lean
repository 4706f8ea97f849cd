/-! The reference: trees. Written by wip/whole/tools/mk_md8.py. -/
theorem bt_pw {ro b : Int} (h0 : 0 ≤ ro ∧ ro < 10) (h1 : 0 ≤ b ∧ b < 10) : btM (gshl 1 ro) b ↔ b = ro := by
  obtain ⟨n, rfl⟩ := toN h0.1
  obtain ⟨c, rfl⟩ := toN h1.1
  rw [gshl_nat ⟨n, by omega⟩]
  show btM ((2 ^ n : Nat) : Int) c ↔ _
  rw [bt_iff (pow_lt (by omega)) (by omega), Nat.testBit_two_pow]
  simp only [decide_eq_true_eq]
  omega
theorem gshl_rg {ro : Int} (h0 : 0 ≤ ro ∧ ro < 10) : 0 ≤ gshl 1 ro ∧ gshl 1 ro < 1024 := by
  obtain ⟨n, rfl⟩ := toN h0.1
  have := pow_lt (show n < 10 by omega)
  have e : gshl 1 (n : Int) = ((2 ^ n : Nat) : Int) := gshl_nat ⟨n, by omega⟩
  rw [e]
  exact ⟨Int.natCast_nonneg _, Int.ofNat_lt.mpr this⟩
theorem set_eq {se mm : Int} (hs : 0 ≤ se ∧ se < 1024) (hm : 0 ≤ mm ∧ mm < 1024) (h1 : ∀ a, inB mm a = true → inB se a = true) (h2 : ∀ c : Int, 0 ≤ c → c < 10 → ¬ (inB se c = true ∧ inB mm c = false)) : mm = se := by
  obtain ⟨s, rfl⟩ := toN hs.1
  obtain ⟨m, rfl⟩ := toN hm.1
  have e : m = s := by
    apply Nat.eq_of_testBit_eq
    intro i
    by_cases hi : i < 10
    · have q1 := (inB_bt (se := (s : Int)) (b := (i : Int)) ⟨by omega, by omega⟩).trans (bt_iff (m := s) (b := i) (by omega) hi)
      have q2 := (inB_bt (se := (m : Int)) (b := (i : Int)) ⟨by omega, by omega⟩).trans (bt_iff (m := m) (b := i) (by omega) hi)
      cases hz : m.testBit i with
      | true => exact (q1.mp (h1 _ (q2.mpr hz))).symm
      | false =>
        cases hy : s.testBit i with
        | false => rfl
        | true => exact absurd ⟨q1.mpr hy, by
            cases hx : inB (m : Int) (i : Int) with
            | false => rfl
            | true => rw [q2.mp hx] at hz; cases hz⟩ (h2 i (by omega) (by omega))
    · have hp : (2 : Nat) ^ 10 ≤ 2 ^ i := Nat.pow_le_pow_right (by decide) (by omega)
      rw [Nat.testBit_lt_two_pow (show m < 2 ^ i by omega), Nat.testBit_lt_two_pow (show s < 2 ^ i by omega)]
  rw [e]
theorem inB_gor {mm c b : Int} (hm : 0 ≤ mm ∧ mm < 1024) (hc : 0 ≤ c ∧ c < 10) : inB (gor mm (gshl 1 c)) b = true ↔ b = c ∨ inB mm b = true := by
  by_cases hb : 0 ≤ b ∧ b < 10
  · rw [inB_bt hb, inB_bt hb, bt_gor hm hc hb]
  · constructor
    · intro z; exact absurd (inB_rg z) hb
    · rintro (z | z)
      · omega
      · exact absurd (inB_rg z) hb
theorem nxF_2 {ds : List Int} {se mm : Int} (h : ∀ b, nea ds b mm ≠ -1) : ∀ (j : Nat) (b : Int) (p : Int × Int), (p.1 = -1 ∨ p.2 ≠ -1) → ((nxF ds se mm j b p).1 = -1 ∨ (nxF ds se mm j b p).2 ≠ -1)
  | 0, _, _, hp => hp
  | j + 1, b, p, hp => by
    show (nxF ds se mm j (b + 1) (if _ then _ else _)).1 = -1 ∨ (nxF ds se mm j (b + 1) (if _ then _ else _)).2 ≠ -1
    split
    · exact nxF_2 h j (b + 1) _ (Or.inr (h b))
    · exact nxF_2 h j (b + 1) p hp
theorem gtI_B {S : gbS} {se a : Int} (hx : ∀ b : Int, 0 ≤ b → b < S.1.length → (gbX S b).length ≤ 40) (ha : 0 ≤ a ∧ a < S.1.length) : ∀ (j : Nat) (b : Int) (ds : List Int), 0 ≤ b → b + j ≤ a → dsB ds → dsB (gtI S se a j b ds)
  | 0, _, _, _, _, h => h
  | j + 1, b, ds, h0, h1, h => by
    show dsB (gtI S se a j (b + 1) (if _ then _ else _))
    have e := ed_le (gbX S a) (gbX S b)
    have e2 := ed_nn (gbX S a) (gbX S b)
    have e3 := hx a ha.1 ha.2
    have e4 := hx b h0 (by omega)
    split
    · exact gtI_B hx ha j (b + 1) _ (by omega) (by omega) (dsB_put (dsB_put h ⟨by omega, by omega⟩) ⟨by omega, by omega⟩)
    · exact gtI_B hx ha j (b + 1) ds (by omega) (by omega) h
theorem gtF_B {S : gbS} {se : Int} (hx : ∀ b : Int, 0 ≤ b → b < S.1.length → (gbX S b).length ≤ 40) : ∀ (j : Nat) (a : Int) (ds : List Int), 0 ≤ a → a + j ≤ S.1.length → dsB ds → dsB (gtF S se j a ds)
  | 0, _, _, _, _, h => h
  | j + 1, a, ds, h0, h1, h => gtF_B hx j (a + 1) _ (by omega) (by omega) (gtI_B hx ⟨h0, by omega⟩ a.toNat 0 ds (by omega) (by omega) h)
theorem gtD_B {S : gbS} {se : Int} (hx : ∀ b : Int, 0 ≤ b → b < S.1.length → (gbX S b).length ≤ 40) {x y : Int} (h0 : 0 ≤ x ∧ x < 10) (h1 : 0 ≤ y ∧ y < 10) : 0 ≤ apt (gtD S se) x y ∧ apt (gtD S se) x y ≤ 100 := by
  have h : dsB (gtD S se) := gtF_B hx S.1.length 0 _ (by omega) (by omega) ⟨rfl, fun x hx => by rw [List.eq_of_mem_replicate hx]; omega⟩
  have hl : (x * 10 + y).toNat < (gtD S se).length := by rw [h.1]; omega
  unfold apt
  rw [lat_in (by omega) hl]
  exact h.2 _ (List.getElem_mem hl)
def trF (V V' : Int → Int → Int) : Prop := (∀ a, a ≠ 775 → a ≠ 813 → a ≠ 818 → V' a = V a) ∧ ∀ k, k ≠ 64 → V' 775 k = V 775 k
theorem trF.q {V V' : Int → Int → Int} (h : trF V V') : qFr V V' := ⟨fun a ha => h.1 a (by omega) (by omega) (by omega), h.2 0 (by omega), h.2 16 (by omega), h.2 17 (by omega)⟩
theorem trF.c {V V1 V2 : Int → Int → Int} (h : trF V V1) (h2 : cFr V1 V2) : trF V V2 := ⟨fun a h3 h4 h5 => (h2 a h4).trans (h.1 a h3 h4 h5), fun k hk => by rw [h2 775 (by omega)]; exact h.2 k hk⟩
section MD8
variable {l : Launch} {E : gE} {d : Nat} {K : List gK} {R V : Int → Int → Int} {a b i w ba se ro r : Int} {Q : gQ} {S : gbS}
set_option maxRecDepth 4000 in
theorem m_findTree (hM : mdK K R) (hS : mdIs V S) (hr1 : 0 ≤ ro ∧ ro < S.1.length) (hss : 0 ≤ se ∧ se < ((2 ^ S.1.length : Nat) : Int)) (hro0 : inB se ro = true) (hQ : ∀ V', (∀ b, inB se b = true → V' 818 b = lat (gtT S ro se).1 b) → V' 775 64 = (gtT S ro se).2 → trF V V' → Q none (K, R, V')) : gC l E (d + 3) iX12_findTree [ga 775, gi ro, gi se] (K, R, V) Q := by
  refine gC_of kX12_findTree (ls := [some (ga 775), some (gi ro), some (gi se), none, none, none, none, none, none, none]) rfl (Nat.le_of_ble_eq_true rfl) ?_
  have hn0 := hS.1
  have hn1 := hS.2.1
  have hgp := gshl_pw hn1
  have hp2 := p2_le hn1
  have hro9a := inB_rg hro0
  have hx40 : ∀ b : Int, 0 ≤ b → b < S.1.length → (gbX S b).length ≤ 40 := fun b b0 b1 => (hS.2.2.2.1 b b0 b1).1.2.1
  have lo : ∀ (jj : Nat) (mm : Int) (j4 : Option gV) (j5 : Option gV) (j6 : Option gV) (j7 : Option gV) (j8 : Option gV) (j9 : Option gV) (k : Nat) (t : List Int × Int) (V0 : Int → Int → Int) (bc bs : Nat), leF9 se mm < (jj : Int) → leF9 se mm ≤ k → 0 ≤ mm ∧ mm < 1024 → (∀ a, inB mm a = true → inB se a = true) → inB mm ro = true → t.1.length = 10 → (∀ b, inB mm b = true → V0 818 b = lat t.1 b) → V0 775 64 = t.2 → 0 ≤ t.2 ∧ t.2 ≤ 100 * (10 - (k : Int)) → k ≤ 10 → trF V V0 → (∀ V', (∀ b, inB se b = true → V' 818 b = lat (grF (gtD S se) se k mm t).1 b) → V' 775 64 = (grF (gtD S se) se k mm t).2 → trF V V' → Q none (K, R, V')) → gX l E (gFm E (d + 3) iX12_findTree Q) 16 [some (ga 775), some (gi ro), some (gi se), some (gi mm), j4, j5, j6, j7, j8, j9] [] (K, R, V0) bc bs := by
    intro jj
    induction jj with
    | zero =>
      intro mm j4 j5 j6 j7 j8 j9 k t V0 bc bs hj hle hm0 hsub hro hl0 hp0 hs0 ht0 hk0 hf0 hq2
      have := (cntB_bd (fun b => inB se ((b : Nat) : Int) && !inB mm ((b : Nat) : Int)) 10).1; unfold leF9 at hj; omega
    | succ jj ih =>
      intro mm j4 j5 j6 j7 j8 j9 k t V0 bc bs hj hle hm0 hsub hro hl0 hp0 hs0 ht0 hk0 hf0 hq2
      refine gX_iloadn dX12_findTree_16 rfl ?_
      refine gX_iloadn dX12_findTree_17 rfl ?_
      refine gX_icmpeq (tgt := 167) dX12_findTree_18 (by decide) (fun m1 => ?_) (fun m1 => ?_)
      · refine gX_vret dX12_findTree_167 rfl ?_
        have egr : grF (gtD S se) se k mm t = t := by
          cases k with
          | zero => rfl
          | succ k => exact if_pos (by assumption)
        rw [egr] at hq2
        have hms : mm = se := by assumption
        rw [hms] at hp0
        exact hq2 V0 hp0 hs0 hf0
      · refine gX_iconst dX12_findTree_21 ⟨by decide, by decide⟩ ?_
        refine gX_istore dX12_findTree_22 (show (4 : Nat) < 10 from by decide) (ls2 := [some (ga 775), some (gi ro), some (gi se), some (gi mm), some (gi (-1)), j5, j6, j7, j8, j9]) rfl ?_
        refine gX_iconst dX12_findTree_24 ⟨by decide, by decide⟩ ?_
        refine gX_istore dX12_findTree_25 (show (5 : Nat) < 10 from by decide) (ls2 := [some (ga 775), some (gi ro), some (gi se), some (gi mm), some (gi (-1)), some (gi (-1)), j6, j7, j8, j9]) rfl ?_
        refine gX_iconst dX12_findTree_27 ⟨by decide, by decide⟩ ?_
        refine gX_istore dX12_findTree_28 (show (6 : Nat) < 10 from by decide) (ls2 := [some (ga 775), some (gi ro), some (gi se), some (gi mm), some (gi (-1)), some (gi (-1)), some (gi 0), j7, j8, j9]) rfl ?_
        refine gX_iconst dX12_findTree_30 ⟨by decide, by decide⟩ ?_
        refine gX_istore dX12_findTree_31 (show (7 : Nat) < 10 from by decide) (ls2 := [some (ga 775), some (gi ro), some (gi se), some (gi mm), some (gi (-1)), some (gi (-1)), some (gi 0), some (gi 0), j8, j9]) rfl ?_
        have lb : ∀ (jj : Nat) (b : Int) (c : Int) (p : Int) (d9 : Int) (j8 : Option gV) (j9 : Option gV) (V1 : Int → Int → Int) (bc bs : Nat), (S.1.length : Int) - b < (jj : Int) → 0 ≤ b → b ≤ (S.1.length : Int) → trF V V1 → (∀ x, x ≠ 813 → V1 x = V0 x) → (∀ V' c2 p2 d2 b2 j8 j9 bc bs, (c2, p2, d2) = ftB (edM S) S.1.length se mm (S.1.length - b.toNat) b (c, p, d9) → (∀ x, x ≠ 813 → V' x = V0 x) → trF V V' → gX l E (gFm E (d + 3) iX12_findTree Q) 137 [some (ga 775), some (gi ro), some (gi se), some (gi mm), some (gi c2), some (gi p2), some (gi d2), b2, j8, j9] [] (K, R, V') bc bs) → gX l E (gFm E (d + 3) iX12_findTree Q) 33 [some (ga 775), some (gi ro), some (gi se), some (gi mm), some (gi c), some (gi p), some (gi d9), some (gi b), j8, j9] [] (K, R, V1) bc bs := by
          intro jj
          induction jj with
          | zero =>
            intro b c p d9 j8 j9 V1 bc bs hj b0 b1 hf1 hz1 hk2
            exfalso; omega
          | succ jj ih =>
            intro b c p d9 j8 j9 V1 bc bs hj b0 b1 hf1 hz1 hk2
            refine gX_iload dX12_findTree_33 rfl ?_
            refine gX_aloadn dX12_findTree_35 rfl ?_
            refine gX_gI 0 dX12_findTree_36 fdX12_151 rfl (Or.inl rfl) hM.1 ?_
            rw [show V1 775 0 = (S.1.length : Int) by rw [hf1.2 0 (by omega)]; exact hS.1]
            refine gX_icmpge (tgt := 137) dX12_findTree_39 (by decide) (fun b1 => ?_) (fun b1 => ?_)
            · have ei : S.1.length - b.toNat = 0 := by omega
              rw [ei] at hk2
              exact hk2 V1 c p d9 _ _ _ _ _ rfl hz1 hf1
            · refine gX_iconst dX12_findTree_42 ⟨by decide, by decide⟩ ?_
              refine gX_istore dX12_findTree_43 (show (8 : Nat) < 10 from by decide) (ls2 := [some (ga 775), some (gi ro), some (gi se), some (gi mm), some (gi c), some (gi p), some (gi d9), some (gi b), some (gi 0), j9]) rfl ?_
              by_cases hfree : ¬ gand (gand se (gxor mm (-1))) (gshl 1 b) = 0
              · have la : ∀ (jj : Nat) (a : Int) (c : Int) (p : Int) (d9 : Int) (j9 : Option gV) (V3 : Int → Int → Int) (bc bs : Nat), (S.1.length : Int) - a < (jj : Int) → 0 ≤ a → a ≤ (S.1.length : Int) → cFr V1 V3 → (∀ V' c2 p2 d2 a2 j9 bc bs, (c2, p2, d2) = ftA (edM S) mm b (S.1.length - a.toNat) a (c, p, d9) → cFr V1 V' → gX l E (gFm E (d + 3) iX12_findTree Q) 131 [some (ga 775), some (gi ro), some (gi se), some (gi mm), some (gi c2), some (gi p2), some (gi d2), some (gi b), a2, j9] [] (K, R, V') bc bs) → gX l E (gFm E (d + 3) iX12_findTree Q) 45 [some (ga 775), some (gi ro), some (gi se), some (gi mm), some (gi c), some (gi p), some (gi d9), some (gi b), some (gi a), j9] [] (K, R, V3) bc bs := by
                  intro jj
                  induction jj with
                  | zero =>
                    intro a c p d9 j9 V3 bc bs hj a0 a1 hf3 hk3
                    exfalso; omega
                  | succ jj ih =>
                    intro a c p d9 j9 V3 bc bs hj a0 a1 hf3 hk3
                    refine gX_iload dX12_findTree_45 rfl ?_
                    refine gX_aloadn dX12_findTree_47 rfl ?_
                    refine gX_gI 0 dX12_findTree_48 fdX12_151 rfl (Or.inl rfl) hM.1 ?_
                    rw [show V3 775 0 = (S.1.length : Int) by rw [hf3 775 (by omega), hf1.2 0 (by omega)]; exact hS.1]
                    refine gX_icmpge (tgt := 131) dX12_findTree_51 (by decide) (fun a1 => ?_) (fun a1 => ?_)
                    · first
                      | (exfalso; exact absurd (by assumption) hfree)
                      | (have ei : S.1.length - a.toNat = 0 := by omega
                         rw [ei] at hk3
                         exact hk3 V3 c p d9 _ _ _ _ rfl hf3)
                    · refine gX_iloadn dX12_findTree_54 rfl ?_
                      refine gX_iloadn dX12_findTree_55 rfl ?_
                      refine gX_iconst dX12_findTree_56 ⟨by decide, by decide⟩ ?_
                      refine gX_ixor dX12_findTree_57 ?_
                      refine gX_iand dX12_findTree_58 ?_
                      refine gX_iconst dX12_findTree_59 ⟨by decide, by decide⟩ ?_
                      refine gX_iload dX12_findTree_60 rfl ?_
                      refine gX_ishl dX12_findTree_62 ?_
                      refine gX_iand dX12_findTree_63 ?_
                      refine gX_ifeq (tgt := 131) dX12_findTree_64 (by decide) (fun a2 => ?_) (fun a2 => ?_)
                      · first
                        | (exfalso; exact absurd (by assumption) hfree)
                        | (have ei : S.1.length - a.toNat = 0 := by omega
                           rw [ei] at hk3
                           exact hk3 V3 c p d9 _ _ _ _ rfl hf3)
                      · refine gX_iloadn dX12_findTree_67 rfl ?_
                        refine gX_iload dX12_findTree_68 rfl ?_
                        refine gX_ishr dX12_findTree_70 ?_
                        refine gX_iconst dX12_findTree_71 ⟨by decide, by decide⟩ ?_
                        refine gX_iand dX12_findTree_72 ?_
                        refine gX_iconst dX12_findTree_73 ⟨by decide, by decide⟩ ?_
                        refine gX_icmpne (tgt := 88) dX12_findTree_74 (by decide) (fun a3 => ?_) (fun a3 => ?_)
                        · refine gX_iconst dX12_findTree_88 ⟨by decide, by decide⟩ ?_
                          refine gX_istore dX12_findTree_89 (show (9 : Nat) < 10 from by decide) (ls2 := [some (ga 775), some (gi ro), some (gi se), some (gi mm), some (gi c), some (gi p), some (gi d9), some (gi b), some (gi a), some (gi 0)]) rfl ?_
                          refine gX_iloadn dX12_findTree_91 rfl ?_
                          refine gX_iload dX12_findTree_92 rfl ?_
                          refine gX_ishr dX12_findTree_94 ?_
                          refine gX_iconst dX12_findTree_95 ⟨by decide, by decide⟩ ?_
                          refine gX_iand dX12_findTree_96 ?_
                          refine gX_iconst dX12_findTree_97 ⟨by decide, by decide⟩ ?_
                          refine gX_icmpne (tgt := 125) dX12_findTree_98 (by decide) (fun a4 => ?_) (fun a4 => ?_)
                          · refine gX_iinc dX12_findTree_125 rfl (show (8 : Nat) < 10 from by decide) ⟨by omega, by omega⟩ (ls2 := [some (ga 775), some (gi ro), some (gi se), some (gi mm), some (gi c), some (gi p), some (gi d9), some (gi b), some (gi (a + 1)), some (gi 0)]) rfl ?_
                            refine gX_goto (tgt := 45) dX12_findTree_128 (by decide) ?_
                            first
                            | (exfalso; omega)
                            | (have ek : S.1.length - a.toNat = (S.1.length - (a + 1).toNat) + 1 := by omega
                               have e1 : ftA (edM S) mm b (S.1.length - a.toNat) a (c, p, d9) = ftA (edM S) mm b (S.1.length - (a + 1).toNat) (a + 1) (c, p, d9) := by
                                 rw [ek]
                                 show ftA (edM S) mm b _ _ (if _ then _ else _) = _
                                 rw [if_neg (by rintro ⟨z1, z2⟩; have z3 : c < 0 ∨ edM S a b < d9 := z2; omega)]
                               rw [e1] at hk3
                               exact ih (a + 1) c p d9 _ V3 _ _ (by omega) (by omega) (by omega) hf3 hk3
                               )
                          · refine gX_iload dX12_findTree_101 rfl ?_
                            refine gX_iflt (tgt := 113) dX12_findTree_103 (by decide) (fun a5 => ?_) (fun a5 => ?_)
                            · refine gX_iload dX12_findTree_113 rfl ?_
                              refine gX_istore dX12_findTree_115 (show (4 : Nat) < 10 from by decide) (ls2 := [some (ga 775), some (gi ro), some (gi se), some (gi mm), some (gi b), some (gi p), some (gi d9), some (gi b), some (gi a), some (gi 0)]) rfl ?_
                              refine gX_iload dX12_findTree_117 rfl ?_
                              refine gX_istore dX12_findTree_119 (show (5 : Nat) < 10 from by decide) (ls2 := [some (ga 775), some (gi ro), some (gi se), some (gi mm), some (gi b), some (gi a), some (gi d9), some (gi b), some (gi a), some (gi 0)]) rfl ?_
                              refine gX_iload dX12_findTree_121 rfl ?_
                              refine gX_istore dX12_findTree_123 (show (6 : Nat) < 10 from by decide) (ls2 := [some (ga 775), some (gi ro), some (gi se), some (gi mm), some (gi b), some (gi a), some (gi 0), some (gi b), some (gi a), some (gi 0)]) rfl ?_
                              refine gX_iinc dX12_findTree_125 rfl (show (8 : Nat) < 10 from by decide) ⟨by omega, by omega⟩ (ls2 := [some (ga 775), some (gi ro), some (gi se), some (gi mm), some (gi b), some (gi a), some (gi 0), some (gi b), some (gi (a + 1)), some (gi 0)]) rfl ?_
                              refine gX_goto (tgt := 45) dX12_findTree_128 (by decide) ?_
                              first
                              | (exfalso; omega)
                              | (have ek : S.1.length - a.toNat = (S.1.length - (a + 1).toNat) + 1 := by omega
                                 have e1 : ftA (edM S) mm b (S.1.length - a.toNat) a (c, p, d9) = ftA (edM S) mm b (S.1.length - (a + 1).toNat) (a + 1) (b, a, edM S a b) := by
                                   rw [ek]
                                   show ftA (edM S) mm b _ _ (if _ then _ else _) = _
                                   rw [if_pos ⟨by omega, by first | exact Or.inl (by omega) | exact Or.inr (by show edM S a b < d9; omega)⟩]
                                 rw [e1] at hk3
                                 exact ih (a + 1) b a (edM S a b) _ V3 _ _ (by omega) (by omega) (by omega) hf3 hk3
                                 )
                            · refine gX_iload dX12_findTree_106 rfl ?_
                              refine gX_iload dX12_findTree_108 rfl ?_
                              refine gX_icmpge (tgt := 125) dX12_findTree_110 (by decide) (fun a6 => ?_) (fun a6 => ?_)
                              · refine gX_iinc dX12_findTree_125 rfl (show (8 : Nat) < 10 from by decide) ⟨by omega, by omega⟩ (ls2 := [some (ga 775), some (gi ro), some (gi se), some (gi mm), some (gi c), some (gi p), some (gi d9), some (gi b), some (gi (a + 1)), some (gi 0)]) rfl ?_
                                refine gX_goto (tgt := 45) dX12_findTree_128 (by decide) ?_
                                first
                                | (exfalso; omega)
                                | (have ek : S.1.length - a.toNat = (S.1.length - (a + 1).toNat) + 1 := by omega
                                   have e1 : ftA (edM S) mm b (S.1.length - a.toNat) a (c, p, d9) = ftA (edM S) mm b (S.1.length - (a + 1).toNat) (a + 1) (c, p, d9) := by
                                     rw [ek]
                                     show ftA (edM S) mm b _ _ (if _ then _ else _) = _
                                     rw [if_neg (by rintro ⟨z1, z2⟩; have z3 : c < 0 ∨ edM S a b < d9 := z2; omega)]
                                   rw [e1] at hk3
                                   exact ih (a + 1) c p d9 _ V3 _ _ (by omega) (by omega) (by omega) hf3 hk3
                                   )
                              · refine gX_iload dX12_findTree_113 rfl ?_
                                refine gX_istore dX12_findTree_115 (show (4 : Nat) < 10 from by decide) (ls2 := [some (ga 775), some (gi ro), some (gi se), some (gi mm), some (gi b), some (gi p), some (gi d9), some (gi b), some (gi a), some (gi 0)]) rfl ?_
                                refine gX_iload dX12_findTree_117 rfl ?_
                                refine gX_istore dX12_findTree_119 (show (5 : Nat) < 10 from by decide) (ls2 := [some (ga 775), some (gi ro), some (gi se), some (gi mm), some (gi b), some (gi a), some (gi d9), some (gi b), some (gi a), some (gi 0)]) rfl ?_
                                refine gX_iload dX12_findTree_121 rfl ?_
                                refine gX_istore dX12_findTree_123 (show (6 : Nat) < 10 from by decide) (ls2 := [some (ga 775), some (gi ro), some (gi se), some (gi mm), some (gi b), some (gi a), some (gi 0), some (gi b), some (gi a), some (gi 0)]) rfl ?_
                                refine gX_iinc dX12_findTree_125 rfl (show (8 : Nat) < 10 from by decide) ⟨by omega, by omega⟩ (ls2 := [some (ga 775), some (gi ro), some (gi se), some (gi mm), some (gi b), some (gi a), some (gi 0), some (gi b), some (gi (a + 1)), some (gi 0)]) rfl ?_
                                refine gX_goto (tgt := 45) dX12_findTree_128 (by decide) ?_
                                first
                                | (exfalso; omega)
                                | (have ek : S.1.length - a.toNat = (S.1.length - (a + 1).toNat) + 1 := by omega
                                   have e1 : ftA (edM S) mm b (S.1.length - a.toNat) a (c, p, d9) = ftA (edM S) mm b (S.1.length - (a + 1).toNat) (a + 1) (b, a, edM S a b) := by
                                     rw [ek]
                                     show ftA (edM S) mm b _ _ (if _ then _ else _) = _
                                     rw [if_pos ⟨by omega, by first | exact Or.inl (by omega) | exact Or.inr (by show edM S a b < d9; omega)⟩]
                                   rw [e1] at hk3
                                   exact ih (a + 1) b a (edM S a b) _ V3 _ _ (by omega) (by omega) (by omega) hf3 hk3
                                   )
                        · have hta := (hS.2.2.2.1 a (by omega) (by omega)).1.tx
                          have htb := (hS.2.2.2.1 b (by omega) (by omega)).1.tx
                          rw [show (gbq S a).1 = gbX S a from rfl] at hta
                          rw [show (gbq S b).1 = gbX S b from rfl] at htb
                          refine gX_aloadn dX12_findTree_77 rfl ?_
                          refine gX_iload dX12_findTree_78 rfl ?_
                          refine gX_iload dX12_findTree_80 rfl ?_
                          refine gX_virt (J := iX12_least) (av := [gi a, gi b]) (a := 775) (st := []) dX12_findTree_82 lkX12_419 kX12_least vX12_least (gFit_m (by decide)) hM.1 rfl rfl (Nat.le_of_ble_eq_true rfl) (Nat.zero_le _) (Nat.zero_le _) rfl ?_
                          refine m_least hM ⟨by omega, by omega⟩ ⟨by omega, by omega⟩ (hta.kept (by rw [hf3 776 (by omega), hf1.1 776 (by omega) (by omega) (by omega)]) (by rw [hf3 777 (by omega), hf1.1 777 (by omega) (by omega) (by omega)])) (htb.kept (by rw [hf3 776 (by omega), hf1.1 776 (by omega) (by omega) (by omega)]) (by rw [hf3 777 (by omega), hf1.1 777 (by omega) (by omega) (by omega)])) (fun V4 hc4 hf4 => ?_)
                          show gX l E _ 85 [some (ga 775), some (gi ro), some (gi se), some (gi mm), some (gi c), some (gi p), some (gi d9), some (gi b), some (gi a), j9] [gi (dd (gbX S a) (gbX S b) 0 0)] (K, R, V4) _ _
                          rw [show dd (gbX S a) (gbX S b) 0 0 = edM S a b from rfl]
                          refine gX_goto (tgt := 89) dX12_findTree_85 (by decide) ?_
                          refine gX_istore dX12_findTree_89 (show (9 : Nat) < 10 from by decide) (ls2 := [some (ga 775), some (gi ro), some (gi se), some (gi mm), some (gi c), some (gi p), some (gi d9), some (gi b), some (gi a), some (gi (edM S a b))]) rfl ?_
                          refine gX_iloadn dX12_findTree_91 rfl ?_
                          refine gX_iload dX12_findTree_92 rfl ?_
                          refine gX_ishr dX12_findTree_94 ?_
                          refine gX_iconst dX12_findTree_95 ⟨by decide, by decide⟩ ?_
                          refine gX_iand dX12_findTree_96 ?_
                          refine gX_iconst dX12_findTree_97 ⟨by decide, by decide⟩ ?_
                          refine gX_icmpne (tgt := 125) dX12_findTree_98 (by decide) (fun a7 => ?_) (fun a7 => ?_)
                          · refine gX_iinc dX12_findTree_125 rfl (show (8 : Nat) < 10 from by decide) ⟨by omega, by omega⟩ (ls2 := [some (ga 775), some (gi ro), some (gi se), some (gi mm), some (gi c), some (gi p), some (gi d9), some (gi b), some (gi (a + 1)), some (gi (edM S a b))]) rfl ?_
                            refine gX_goto (tgt := 45) dX12_findTree_128 (by decide) ?_
                            first
                            | (exfalso; omega)
                            | (have ek : S.1.length - a.toNat = (S.1.length - (a + 1).toNat) + 1 := by omega
                               have e1 : ftA (edM S) mm b (S.1.length - a.toNat) a (c, p, d9) = ftA (edM S) mm b (S.1.length - (a + 1).toNat) (a + 1) (c, p, d9) := by
                                 rw [ek]
                                 show ftA (edM S) mm b _ _ (if _ then _ else _) = _
                                 rw [if_neg (by rintro ⟨z1, z2⟩; have z3 : c < 0 ∨ edM S a b < d9 := z2; omega)]
                               rw [e1] at hk3
                               exact ih (a + 1) c p d9 _ V4 _ _ (by omega) (by omega) (by omega) (fun x hx9 => (hf4 x hx9).trans (hf3 x hx9)) hk3
                               )
                          · refine gX_iload dX12_findTree_101 rfl ?_
                            refine gX_iflt (tgt := 113) dX12_findTree_103 (by decide) (fun a8 => ?_) (fun a8 => ?_)
                            · refine gX_iload dX12_findTree_113 rfl ?_
                              refine gX_istore dX12_findTree_115 (show (4 : Nat) < 10 from by decide) (ls2 := [some (ga 775), some (gi ro), some (gi se), some (gi mm), some (gi b), some (gi p), some (gi d9), some (gi b), some (gi a), some (gi (edM S a b))]) rfl ?_
                              refine gX_iload dX12_findTree_117 rfl ?_
                              refine gX_istore dX12_findTree_119 (show (5 : Nat) < 10 from by decide) (ls2 := [some (ga 775), some (gi ro), some (gi se), some (gi mm), some (gi b), some (gi a), some (gi d9), some (gi b), some (gi a), some (gi (edM S a b))]) rfl ?_
                              refine gX_iload dX12_findTree_121 rfl ?_
                              refine gX_istore dX12_findTree_123 (show (6 : Nat) < 10 from by decide) (ls2 := [some (ga 775), some (gi ro), some (gi se), some (gi mm), some (gi b), some (gi a), some (gi (edM S a b)), some (gi b), some (gi a), some (gi (edM S a b))]) rfl ?_
                              refine gX_iinc dX12_findTree_125 rfl (show (8 : Nat) < 10 from by decide) ⟨by omega, by omega⟩ (ls2 := [some (ga 775), some (gi ro), some (gi se), some (gi mm), some (gi b), some (gi a), some (gi (edM S a b)), some (gi b), some (gi (a + 1)), some (gi (edM S a b))]) rfl ?_
                              refine gX_goto (tgt := 45) dX12_findTree_128 (by decide) ?_
                              first
                              | (exfalso; omega)
                              | (have ek : S.1.length - a.toNat = (S.1.length - (a + 1).toNat) + 1 := by omega
                                 have e1 : ftA (edM S) mm b (S.1.length - a.toNat) a (c, p, d9) = ftA (edM S) mm b (S.1.length - (a + 1).toNat) (a + 1) (b, a, edM S a b) := by
                                   rw [ek]
                                   show ftA (edM S) mm b _ _ (if _ then _ else _) = _
                                   rw [if_pos ⟨by omega, by first | exact Or.inl (by omega) | exact Or.inr (by show edM S a b < d9; omega)⟩]
                                 rw [e1] at hk3
                                 exact ih (a + 1) b a (edM S a b) _ V4 _ _ (by omega) (by omega) (by omega) (fun x hx9 => (hf4 x hx9).trans (hf3 x hx9)) hk3
                                 )
                            · refine gX_iload dX12_findTree_106 rfl ?_
                              refine gX_iload dX12_findTree_108 rfl ?_
                              refine gX_icmpge (tgt := 125) dX12_findTree_110 (by decide) (fun a9 => ?_) (fun a9 => ?_)
                              · refine gX_iinc dX12_findTree_125 rfl (show (8 : Nat) < 10 from by decide) ⟨by omega, by omega⟩ (ls2 := [some (ga 775), some (gi ro), some (gi se), some (gi mm), some (gi c), some (gi p), some (gi d9), some (gi b), some (gi (a + 1)), some (gi (edM S a b))]) rfl ?_
                                refine gX_goto (tgt := 45) dX12_findTree_128 (by decide) ?_
                                first
                                | (exfalso; omega)
                                | (have ek : S.1.length - a.toNat = (S.1.length - (a + 1).toNat) + 1 := by omega
                                   have e1 : ftA (edM S) mm b (S.1.length - a.toNat) a (c, p, d9) = ftA (edM S) mm b (S.1.length - (a + 1).toNat) (a + 1) (c, p, d9) := by
                                     rw [ek]
                                     show ftA (edM S) mm b _ _ (if _ then _ else _) = _
                                     rw [if_neg (by rintro ⟨z1, z2⟩; have z3 : c < 0 ∨ edM S a b < d9 := z2; omega)]
                                   rw [e1] at hk3
                                   exact ih (a + 1) c p d9 _ V4 _ _ (by omega) (by omega) (by omega) (fun x hx9 => (hf4 x hx9).trans (hf3 x hx9)) hk3
                                   )
                              · refine gX_iload dX12_findTree_113 rfl ?_
                                refine gX_istore dX12_findTree_115 (show (4 : Nat) < 10 from by decide) (ls2 := [some (ga 775), some (gi ro), some (gi se), some (gi mm), some (gi b), some (gi p), some (gi d9), some (gi b), some (gi a), some (gi (edM S a b))]) rfl ?_
                                refine gX_iload dX12_findTree_117 rfl ?_
                                refine gX_istore dX12_findTree_119 (show (5 : Nat) < 10 from by decide) (ls2 := [some (ga 775), some (gi ro), some (gi se), some (gi mm), some (gi b), some (gi a), some (gi d9), some (gi b), some (gi a), some (gi (edM S a b))]) rfl ?_
                                refine gX_iload dX12_findTree_121 rfl ?_
                                refine gX_istore dX12_findTree_123 (show (6 : Nat) < 10 from by decide) (ls2 := [some (ga 775), some (gi ro), some (gi se), some (gi mm), some (gi b), some (gi a), some (gi (edM S a b)), some (gi b), some (gi a), some (gi (edM S a b))]) rfl ?_
                                refine gX_iinc dX12_findTree_125 rfl (show (8 : Nat) < 10 from by decide) ⟨by omega, by omega⟩ (ls2 := [some (ga 775), some (gi ro), some (gi se), some (gi mm), some (gi b), some (gi a), some (gi (edM S a b)), some (gi b), some (gi (a + 1)), some (gi (edM S a b))]) rfl ?_
                                refine gX_goto (tgt := 45) dX12_findTree_128 (by decide) ?_
                                first
                                | (exfalso; omega)
                                | (have ek : S.1.length - a.toNat = (S.1.length - (a + 1).toNat) + 1 := by omega
                                   have e1 : ftA (edM S) mm b (S.1.length - a.toNat) a (c, p, d9) = ftA (edM S) mm b (S.1.length - (a + 1).toNat) (a + 1) (b, a, edM S a b) := by
                                     rw [ek]
                                     show ftA (edM S) mm b _ _ (if _ then _ else _) = _
                                     rw [if_pos ⟨by omega, by first | exact Or.inl (by omega) | exact Or.inr (by show edM S a b < d9; omega)⟩]
                                   rw [e1] at hk3
                                   exact ih (a + 1) b a (edM S a b) _ V4 _ _ (by omega) (by omega) (by omega) (fun x hx9 => (hf4 x hx9).trans (hf3 x hx9)) hk3
                                   )
                refine la (S.1.length + 1) 0 c p d9 _ V1 _ _ (by omega) (by omega) (by omega) (fun _ _ => rfl) (fun V5 c2 p2 d2 a2 j9 bc bs e5 hf5 => ?_)
                rw [show S.1.length - (0 : Int).toNat = S.1.length by omega] at e5
                refine gX_iinc dX12_findTree_131 rfl (show (7 : Nat) < 10 from by decide) ⟨by omega, by omega⟩ (ls2 := [some (ga 775), some (gi ro), some (gi se), some (gi mm), some (gi c2), some (gi p2), some (gi d2), some (gi (b + 1)), a2, j9]) rfl ?_
                refine gX_goto (tgt := 33) dX12_findTree_134 (by decide) ?_
                have ek : S.1.length - b.toNat = (S.1.length - (b + 1).toNat) + 1 := by omega
                have e1 : ftB (edM S) S.1.length se mm (S.1.length - b.toNat) b (c, p, d9) = ftB (edM S) S.1.length se mm (S.1.length - (b + 1).toNat) (b + 1) (c2, p2, d2) := by
                  rw [ek]
                  show ftB _ _ _ _ _ _ (if _ then _ else _) = _
                  rw [if_pos hfree, e5]
                rw [e1] at hk2
                exact ih (b + 1) c2 p2 d2 _ _ V5 _ _ (by omega) (by omega) (by omega) (hf1.c hf5) (fun x hx9 => (hf5 x hx9).trans (hz1 x hx9)) hk2
              · refine gX_iload dX12_findTree_45 rfl ?_
                refine gX_aloadn dX12_findTree_47 rfl ?_
                refine gX_gI 0 dX12_findTree_48 fdX12_151 rfl (Or.inl rfl) hM.1 ?_
                rw [show V1 775 0 = (S.1.length : Int) by rw [hf1.2 0 (by omega)]; exact hS.1]
                refine gX_icmpge (tgt := 131) dX12_findTree_51 (by decide) (fun n1 => ?_) (fun n1 => ?_)
                · refine gX_iinc dX12_findTree_131 rfl (show (7 : Nat) < 10 from by decide) ⟨by omega, by omega⟩ (ls2 := [some (ga 775), some (gi ro), some (gi se), some (gi mm), some (gi c), some (gi p), some (gi d9), some (gi (b + 1)), some (gi 0), j9]) rfl ?_
                  refine gX_goto (tgt := 33) dX12_findTree_134 (by decide) ?_
                  have ek : S.1.length - b.toNat = (S.1.length - (b + 1).toNat) + 1 := by omega
                  have e1 : ftB (edM S) S.1.length se mm (S.1.length - b.toNat) b (c, p, d9) = ftB (edM S) S.1.length se mm (S.1.length - (b + 1).toNat) (b + 1) (c, p, d9) := by
                    rw [ek]
                    show ftB _ _ _ _ _ _ (if _ then _ else _) = _
                    rw [if_neg hfree]
                  rw [e1] at hk2
                  exact ih (b + 1) c p d9 _ _ V1 _ _ (by omega) (by omega) (by omega) hf1 hz1 hk2
                · refine gX_iloadn dX12_findTree_54 rfl ?_
                  refine gX_iloadn dX12_findTree_55 rfl ?_
                  refine gX_iconst dX12_findTree_56 ⟨by decide, by decide⟩ ?_
                  refine gX_ixor dX12_findTree_57 ?_
                  refine gX_iand dX12_findTree_58 ?_
                  refine gX_iconst dX12_findTree_59 ⟨by decide, by decide⟩ ?_
                  refine gX_iload dX12_findTree_60 rfl ?_
                  refine gX_ishl dX12_findTree_62 ?_
                  refine gX_iand dX12_findTree_63 ?_
                  refine gX_ifeq (tgt := 131) dX12_findTree_64 (by decide) (fun n2 => ?_) (fun n2 => ?_)
                  · refine gX_iinc dX12_findTree_131 rfl (show (7 : Nat) < 10 from by decide) ⟨by omega, by omega⟩ (ls2 := [some (ga 775), some (gi ro), some (gi se), some (gi mm), some (gi c), some (gi p), some (gi d9), some (gi (b + 1)), some (gi 0), j9]) rfl ?_
                    refine gX_goto (tgt := 33) dX12_findTree_134 (by decide) ?_
                    have ek : S.1.length - b.toNat = (S.1.length - (b + 1).toNat) + 1 := by omega
                    have e1 : ftB (edM S) S.1.length se mm (S.1.length - b.toNat) b (c, p, d9) = ftB (edM S) S.1.length se mm (S.1.length - (b + 1).toNat) (b + 1) (c, p, d9) := by
                      rw [ek]
                      show ftB _ _ _ _ _ _ (if _ then _ else _) = _
                      rw [if_neg hfree]
                    rw [e1] at hk2
                    exact ih (b + 1) c p d9 _ _ V1 _ _ (by omega) (by omega) (by omega) hf1 hz1 hk2
                  · exfalso
                    exact absurd (by assumption) hfree
        have hse9 : ¬ mm = se := by first | assumption | (intro z; exact absurd z (by assumption))
        have hpn := nxF_in2 (ds := (gtD S se)) (se := se) (mm := mm) 10 0 (-1, -1) (by omega) (by omega) (Or.inl rfl)
        have hnx9 : ¬ (nxB (gtD S se) se mm).1 = -1 := fun z => hse9 (set_eq ⟨by omega, by omega⟩ hm0 hsub (fun c c0 c1 => (hpn.1 z).2 c c0 (by omega)))
        have hin : inB se (nxB (gtD S se) se mm).1 = true ∧ inB mm (nxB (gtD S se) se mm).1 = false := by
          rcases hpn.2 with z | z
          · exact absurd z hnx9
          · exact z
        have hnr := inB_rg hin.1
        have hdec : leF9 se (gor mm (gshl 1 (nxB (gtD S se) se mm).1)) < leF9 se mm := by
          have en : (((nxB (gtD S se) se mm).1.toNat : Nat) : Int) = (nxB (gtD S se) se mm).1 := Int.toNat_of_nonneg hnr.1
          have hgo := fun b => inB_gor (mm := mm) (c := (nxB (gtD S se) se mm).1) (b := b) hm0 hnr
          refine cntB_lt (k := (nxB (gtD S se) se mm).1.toNat) (fun j hj hz => ?_) (by omega) ?_ ?_
          · simp only [Bool.and_eq_true, Bool.not_eq_true'] at hz ⊢
            refine ⟨hz.1, ?_⟩
            cases hy : inB mm (j : Int) with
            | false => rfl
            | true => rw [(hgo _).mpr (Or.inr hy)] at hz; cases hz.2
          · rw [en, (hgo _).mpr (Or.inl rfl)]; simp
          · rw [en, hin.1, hin.2]; rfl
        have hk1 : 1 ≤ k := by
          have := (cntB_bd (fun b => inB se ((b : Nat) : Int) && !inB (gor mm (gshl 1 (nxB (gtD S se) se mm).1)) ((b : Nat) : Int)) 10).1
          unfold leF9 at hdec hle
          omega
        obtain ⟨k9, rfl⟩ : ∃ k9, k = k9 + 1 := ⟨k - 1, by omega⟩
        refine lb (S.1.length + 1) 0 (-1) (-1) 0 _ _ V0 _ _ (by omega) (by omega) (by omega) hf0 (fun _ _ => rfl) (fun V6 c2 p2 d2 b2 j8 j9 bc bs e6 hz6 hf6 => ?_)
        rw [show S.1.length - (0 : Int).toNat = S.1.length by omega] at e6
        have hft := ftB_nx (mm := mm) hn1 (gtD_ok (se := se) hn1) hss hm0 hsub ⟨ro, hr1.1, hr1.2, hro⟩ S.1.length 0 (-1, -1) (by omega) (by omega) (by decide)
        have e7 : (c2, p2, d2) = enc (gtD S se) (nxB (gtD S se) se mm) := by rw [e6]; exact hft
        have ec : c2 = (nxB (gtD S se) se mm).1 := congrArg (fun x => x.1) e7
        have ep : p2 = (nxB (gtD S se) se mm).2 := congrArg (fun x => x.2.1) e7
        have ed9 : d2 = apt (gtD S se) (nxB (gtD S se) se mm).2 (nxB (gtD S se) se mm).1 := by
          have : d2 = (enc (gtD S se) (nxB (gtD S se) se mm)).2.2 := congrArg (fun x => x.2.2) e7
          rw [this]
          exact if_neg hnx9
        subst ec ep ed9
        have hap : 0 ≤ apt (gtD S se) (nxB (gtD S se) se mm).2 (nxB (gtD S se) se mm).1 ∧ apt (gtD S se) (nxB (gtD S se) se mm).2 (nxB (gtD S se) se mm).1 ≤ 100 := by
          have hne9 : ∀ b, nea (gtD S se) b mm ≠ -1 := fun b => neF_ne 10 0 (-1) (by omega) (Or.inr ⟨ro, hr1.1, by omega, hro⟩)
          have h29 : (nxB (gtD S se) se mm).2 ≠ -1 := (nxF_2 hne9 10 0 (-1, -1) (Or.inl rfl)).resolve_left hnx9
          have h28 := nxF_in (ds := gtD S se) (se := se) (mm := mm) 10 0 (-1, -1) (by omega) (by omega) ⟨by decide, by decide, by decide, by decide⟩
          have h27 : -1 ≤ (nxB (gtD S se) se mm).2 ∧ (nxB (gtD S se) se mm).2 < 10 := h28.2.2
          exact gtD_B hx40 ⟨by omega, by omega⟩ ⟨hnr.1, hnr.2⟩
        refine gX_aloadn dX12_findTree_137 rfl ?_
        refine gX_gR 63 dX12_findTree_138 fdX12_141 rfl rfl hM.1 (mR63 hM) ?_
        refine gX_iload dX12_findTree_141 rfl ?_
        refine gX_iload dX12_findTree_143 rfl ?_
        refine gX_iast dX12_findTree_145 (mA63 hM) (by omega) (by omega) ?_
        refine gX_aloadn dX12_findTree_146 rfl ?_
        refine gX_dup dX12_findTree_147 rfl ?_
        refine gX_gI 64 dX12_findTree_148 fdX12_452 rfl (Or.inl rfl) hM.1 ?_
        rw [show gup V6 818 (nxB (gtD S se) se mm).1 (nxB (gtD S se) se mm).2 775 64 = t.2 by rw [gup_ne (by omega), hz6 775 (by omega)]; exact hs0]
        refine gX_iload dX12_findTree_151 rfl ?_
        refine gX_iadd dX12_findTree_153 ⟨by omega, by omega⟩ ?_
        refine gX_pI 64 dX12_findTree_154 fdX12_452 fpX12_452 rfl (Or.inl rfl) hM.1 ?_
        refine gX_iloadn dX12_findTree_157 rfl ?_
        refine gX_iconst dX12_findTree_158 ⟨by decide, by decide⟩ ?_
        refine gX_iload dX12_findTree_159 rfl ?_
        refine gX_ishl dX12_findTree_161 ?_
        refine gX_ior dX12_findTree_162 ?_
        refine gX_istoren dX12_findTree_163 (show (3 : Nat) < 10 from by decide) (ls2 := [some (ga 775), some (gi ro), some (gi se), some (gi (gor mm (gshl 1 ((nxB (gtD S se) se mm).1)))), some (gi ((nxB (gtD S se) se mm).1)), some (gi ((nxB (gtD S se) se mm).2)), some (gi (apt (gtD S se) (nxB (gtD S se) se mm).2 (nxB (gtD S se) se mm).1)), b2, j8, j9]) rfl ?_
        refine gX_goto (tgt := 16) dX12_findTree_164 (by decide) ?_
        have egr : grF (gtD S se) se (k9 + 1) mm t = grF (gtD S se) se k9 (gor mm (gshl 1 (nxB (gtD S se) se mm).1)) (lput t.1 (nxB (gtD S se) se mm).1 (nxB (gtD S se) se mm).2, t.2 + apt (gtD S se) (nxB (gtD S se) se mm).2 (nxB (gtD S se) se mm).1) := by
          show (if _ then _ else if _ then _ else _) = _
          rw [if_neg hse9, if_neg hnx9]
        rw [egr] at hq2
        have hgo := fun b => inB_gor (mm := mm) (c := (nxB (gtD S se) se mm).1) (b := b) hm0 ⟨by omega, by omega⟩
        refine ih (gor mm (gshl 1 (nxB (gtD S se) se mm).1)) _ _ _ _ _ _ k9 (lput t.1 (nxB (gtD S se) se mm).1 (nxB (gtD S se) se mm).2, t.2 + apt (gtD S se) (nxB (gtD S se) se mm).2 (nxB (gtD S se) se mm).1) _ _ _ ?_ ?_ ?_ ?_ ?_ ?_ ?_ ?_ ?_ ?_ ?_ hq2
        · omega
        · omega
        · exact gor_lt hm0 ⟨by omega, by omega⟩
        · intro a ha
          rcases (hgo a).mp ha with z | z
          · rw [z]; exact hin.1
          · exact hsub a z
        · exact (hgo ro).mpr (Or.inr hro)
        · show (lput t.1 (nxB (gtD S se) se mm).1 (nxB (gtD S se) se mm).2).length = 10
          rw [lpL]; exact hl0
        · intro b hb
          have hbr := inB_rg hb
          rw [gup_ne (by omega)]
          show gup V6 818 (nxB (gtD S se) se mm).1 (nxB (gtD S se) se mm).2 818 b = lat (lput t.1 (nxB (gtD S se) se mm).1 (nxB (gtD S se) se mm).2) b
          rw [latP (by omega) (by omega) (by omega)]
          by_cases eb : b = (nxB (gtD S se) se mm).1
          · rw [if_pos eb, eb]; exact gup_s
          · rw [if_neg eb, gup_k eb, hz6 818 (by omega)]
            rcases (hgo b).mp hb with z | z
            · exact absurd z eb
            · exact hp0 b z
        · exact gup_s
        · show 0 ≤ t.2 + apt (gtD S se) (nxB (gtD S se) se mm).2 (nxB (gtD S se) se mm).1 ∧ t.2 + apt (gtD S se) (nxB (gtD S se) se mm).2 (nxB (gtD S se) se mm).1 ≤ 100 * (10 - (k9 : Int))
          omega
        · omega
        · exact ⟨fun a h3 h4 h5 => by rw [gup_ne h3, gup_ne h5]; exact hf6.1 a h3 h4 h5, fun k hk => by rw [gup_k hk, gup_ne (by omega)]; exact hf6.2 k hk⟩
  refine gX_iconst dX12_findTree_0 ⟨by decide, by decide⟩ ?_
  refine gX_iloadn dX12_findTree_1 rfl ?_
  refine gX_ishl dX12_findTree_2 ?_
  refine gX_istoren dX12_findTree_3 (show (3 : Nat) < 10 from by decide) (ls2 := [some (ga 775), some (gi ro), some (gi se), some (gi (gshl 1 ro)), none, none, none, none, none, none]) rfl ?_
  refine gX_aloadn dX12_findTree_4 rfl ?_
  refine gX_gR 63 dX12_findTree_5 fdX12_141 rfl rfl hM.1 (mR63 hM) ?_
  refine gX_iloadn dX12_findTree_8 rfl ?_
  refine gX_iconst dX12_findTree_9 ⟨by decide, by decide⟩ ?_
  refine gX_iast dX12_findTree_10 (mA63 hM) (by omega) (by omega) ?_
  refine gX_aloadn dX12_findTree_11 rfl ?_
  refine gX_iconst dX12_findTree_12 ⟨by decide, by decide⟩ ?_
  refine gX_pI 64 dX12_findTree_13 fdX12_452 fpX12_452 rfl (Or.inl rfl) hM.1 ?_
  have hro9 := inB_rg hro0
  have hpw := fun b h => bt_pw (ro := ro) (b := b) ⟨hro9.1, hro9.2⟩ h
  have hl10 := (cntB_bd (fun b => inB se ((b : Nat) : Int) && !inB (gshl 1 ro) ((b : Nat) : Int)) 10).2
  refine lo 11 (gshl 1 ro) _ _ _ _ _ _ 10 (List.replicate 10 (-1), 0) _ _ _ ?_ ?_ (gshl_rg ⟨hro9.1, hro9.2⟩) ?_ ?_ rfl ?_ ?_ ?_ (by omega) ?_ hQ
  · unfold leF9; omega
  · unfold leF9; exact hl10
  · intro a ha
    have har := inB_rg ha
    rw [(hpw a har).mp ((inB_bt har).mp ha)]; exact hro0
  · exact (inB_bt ⟨hro9.1, hro9.2⟩).mpr ((hpw ro ⟨hro9.1, hro9.2⟩).mpr rfl)
  · intro b hb
    have hbr := inB_rg hb
    rw [(hpw b hbr).mp ((inB_bt hbr).mp hb), gup_ne (by omega)]
    show gup V 818 ro (-1) 818 ro = lat (List.replicate 10 (-1)) ro
    rw [show gup V 818 ro (-1) 818 ro = -1 from gup_s]
    rcases lat_cs (List.replicate 10 (-1)) ro with z | z
    · exact z.symm
    · exact (List.eq_of_mem_replicate z).symm
  · exact gup_s
  · exact ⟨Int.le_refl _, by show (0 : Int) ≤ 100 * (10 - ((10 : Nat) : Int)); omega⟩
  · exact ⟨fun a h3 h4 h5 => by rw [gup_ne h3, gup_ne h5], fun k hk => by rw [gup_k hk, gup_ne (by omega)]⟩
theorem bt01 : ∀ (m : Fin 1024) (b : Fin 10), gand (gshr ((m : Nat) : Int) ((b : Nat) : Int)) 1 = 0 ∨ gand (gshr ((m : Nat) : Int) ((b : Nat) : Int)) 1 = 1 := by decide +kernel
theorem bt_01 {se b : Int} (hs : 0 ≤ se ∧ se < 1024) (hb : 0 ≤ b ∧ b < 10) : gand (gshr se b) 1 = 0 ∨ gand (gshr se b) 1 = 1 := by
  obtain ⟨n, rfl⟩ := toN hs.1
  obtain ⟨c, rfl⟩ := toN hb.1
  exact bt01 ⟨n, by omega⟩ ⟨c, by omega⟩
/-- what is in a set of books is a book -/
theorem in_bk {S : gbS} {se b : Int} (hn : S.1.length ≤ 10) (hs : 0 ≤ se ∧ se < ((2 ^ S.1.length : Nat) : Int)) (h : inB se b = true) : 0 ≤ b ∧ b < S.1.length := by
  have hb := inB_rg h
  exact ⟨hb.1, Decidable.byContradiction fun z => bt_hi hn hs ⟨by omega, hb.2⟩ ((inB_bt hb).mp h)⟩
set_option maxRecDepth 4000 in
theorem m_parent (hM : mdK K R) (hS : mdIs V S) (hse : in32 se) (hQ : ∀ V', qFr V V' → Q (some (gi (aParent S ro se b))) (K, R, V')) : gC l E (d + 4) iX12_parent [ga 775, gi ro, gi se, gi b] (K, R, V) Q := by
  refine gC_of kX12_parent (ls := [some (ga 775), some (gi ro), some (gi se), some (gi b)]) rfl (Nat.le_of_ble_eq_true rfl) ?_
  have hn0 := hS.1
  have hn1 := hS.2.1
  have hgp := gshl_pw hn1
  have hp2 := p2_le hn1
  refine gX_aloadn dX12_parent_0 rfl ?_
  refine gX_iloadn dX12_parent_1 rfl ?_
  refine gX_virt (J := iX12_isBook) (av := [gi ro]) (a := 775) (st := []) dX12_parent_2 lkX12_371 kX12_isBook vX12_isBook (gFit_m (by decide)) hM.1 rfl rfl (Nat.le_of_ble_eq_true rfl) (Nat.zero_le _) (Nat.zero_le _) rfl ?_
  refine m_isBook hM hS.1 hS.2.1 ?_
  show gX l E _ 5 [some (ga 775), some (gi ro), some (gi se), some (gi b)] [gi (b2i (inR ro 0 ((S.1.length : Int) - 1)))] (K, R, V) _ _
  refine gX_ifeq (tgt := 40) dX12_parent_5 (by decide) (fun w1 => ?_) (fun w1 => ?_)
  · have w1 := inR_0 w1
    refine gX_sipush dX12_parent_40 (by decide) ⟨by decide, by decide⟩ ?_
    refine gX_iret dX12_parent_43 (Or.inl rfl) ?_
    have ea : aParent S ro se b = -1001 := by
      unfold aParent
      rw [if_neg (fun z => ?_)]
      have z1 := (isS_iff hn1 hse).mp z.1
      have z2 := in_bk hn1 z1 z.2.1
      have z3 := in_bk hn1 z1 z.2.2
      have z4 : gand (gshr se ro) 1 = 1 := (inB_bt ⟨by omega, by omega⟩).mp z.2.1
      have z5 : gand (gshr se b) 1 = 1 := (inB_bt ⟨by omega, by omega⟩).mp z.2.2
      omega
    rw [ea] at hQ
    exact hQ V qFr.rf
  · have w1 := inR_1 w1
    refine gX_aloadn dX12_parent_8 rfl ?_
    refine gX_iloadn dX12_parent_9 rfl ?_
    refine gX_virt (J := iX12_areBooks) (av := [gi se]) (a := 775) (st := []) dX12_parent_10 lkX12_434 kX12_areBooks vX12_areBooks (gFit_m (by decide)) hM.1 rfl rfl (Nat.le_of_ble_eq_true rfl) (Nat.zero_le _) (Nat.zero_le _) rfl ?_
    refine m_areBooks hM hS.1 hS.2.1 ?_
    show gX l E _ 13 [some (ga 775), some (gi ro), some (gi se), some (gi b)] [gi (b2i (inR se 0 (gshl 1 (S.1.length : Int) - 1)))] (K, R, V) _ _
    refine gX_ifeq (tgt := 40) dX12_parent_13 (by decide) (fun w2 => ?_) (fun w2 => ?_)
    · have w2 := inR_0 w2
      refine gX_sipush dX12_parent_40 (by decide) ⟨by decide, by decide⟩ ?_
      refine gX_iret dX12_parent_43 (Or.inl rfl) ?_
      have ea : aParent S ro se b = -1001 := by
        unfold aParent
        rw [if_neg (fun z => ?_)]
        have z1 := (isS_iff hn1 hse).mp z.1
        have z2 := in_bk hn1 z1 z.2.1
        have z3 := in_bk hn1 z1 z.2.2
        have z4 : gand (gshr se ro) 1 = 1 := (inB_bt ⟨by omega, by omega⟩).mp z.2.1
        have z5 : gand (gshr se b) 1 = 1 := (inB_bt ⟨by omega, by omega⟩).mp z.2.2
        omega
      rw [ea] at hQ
      exact hQ V qFr.rf
    · have w2 := inR_1 w2
      refine gX_aloadn dX12_parent_16 rfl ?_
      refine gX_iloadn dX12_parent_17 rfl ?_
      refine gX_virt (J := iX12_isBook) (av := [gi b]) (a := 775) (st := []) dX12_parent_18 lkX12_371 kX12_isBook vX12_isBook (gFit_m (by decide)) hM.1 rfl rfl (Nat.le_of_ble_eq_true rfl) (Nat.zero_le _) (Nat.zero_le _) rfl ?_
      refine m_isBook hM hS.1 hS.2.1 ?_
      show gX l E _ 21 [some (ga 775), some (gi ro), some (gi se), some (gi b)] [gi (b2i (inR b 0 ((S.1.length : Int) - 1)))] (K, R, V) _ _
      refine gX_ifeq (tgt := 40) dX12_parent_21 (by decide) (fun w3 => ?_) (fun w3 => ?_)
      · have w3 := inR_0 w3
        refine gX_sipush dX12_parent_40 (by decide) ⟨by decide, by decide⟩ ?_
        refine gX_iret dX12_parent_43 (Or.inl rfl) ?_
        have ea : aParent S ro se b = -1001 := by
          unfold aParent
          rw [if_neg (fun z => ?_)]
          have z1 := (isS_iff hn1 hse).mp z.1
          have z2 := in_bk hn1 z1 z.2.1
          have z3 := in_bk hn1 z1 z.2.2
          have z4 : gand (gshr se ro) 1 = 1 := (inB_bt ⟨by omega, by omega⟩).mp z.2.1
          have z5 : gand (gshr se b) 1 = 1 := (inB_bt ⟨by omega, by omega⟩).mp z.2.2
          omega
        rw [ea] at hQ
        exact hQ V qFr.rf
      · have w3 := inR_1 w3
        refine gX_iloadn dX12_parent_24 rfl ?_
        refine gX_iloadn dX12_parent_25 rfl ?_
        refine gX_ishr dX12_parent_26 ?_
        refine gX_iconst dX12_parent_27 ⟨by decide, by decide⟩ ?_
        refine gX_iand dX12_parent_28 ?_
        refine gX_ifeq (tgt := 40) dX12_parent_29 (by decide) (fun w4 => ?_) (fun w4 => ?_)
        · refine gX_sipush dX12_parent_40 (by decide) ⟨by decide, by decide⟩ ?_
          refine gX_iret dX12_parent_43 (Or.inl rfl) ?_
          have ea : aParent S ro se b = -1001 := by
            unfold aParent
            rw [if_neg (fun z => ?_)]
            have z1 := (isS_iff hn1 hse).mp z.1
            have z2 := in_bk hn1 z1 z.2.1
            have z3 := in_bk hn1 z1 z.2.2
            have z4 : gand (gshr se ro) 1 = 1 := (inB_bt ⟨by omega, by omega⟩).mp z.2.1
            have z5 : gand (gshr se b) 1 = 1 := (inB_bt ⟨by omega, by omega⟩).mp z.2.2
            omega
          rw [ea] at hQ
          exact hQ V qFr.rf
        · refine gX_iloadn dX12_parent_32 rfl ?_
          refine gX_iloadn dX12_parent_33 rfl ?_
          refine gX_ishr dX12_parent_34 ?_
          refine gX_iconst dX12_parent_35 ⟨by decide, by decide⟩ ?_
          refine gX_iand dX12_parent_36 ?_
          refine gX_ifne (tgt := 44) dX12_parent_37 (by decide) (fun w5 => ?_) (fun w5 => ?_)
          · have hr1 : 0 ≤ ro ∧ ro < S.1.length := ⟨by omega, by omega⟩
            have hss : 0 ≤ se ∧ se < ((2 ^ S.1.length : Nat) : Int) := ⟨by omega, by omega⟩
            have hr2 : 0 ≤ b ∧ b < S.1.length := ⟨by omega, by omega⟩
            have hi1 : inB se ro = true := (inB_bt ⟨by omega, by omega⟩).mpr (by have := bt_01 (se := se) (b := ro) ⟨by omega, by omega⟩ ⟨by omega, by omega⟩; show gand (gshr se ro) 1 = 1; omega)
            have hi2 : inB se b = true := (inB_bt ⟨by omega, by omega⟩).mpr (by have := bt_01 (se := se) (b := b) ⟨by omega, by omega⟩ ⟨by omega, by omega⟩; show gand (gshr se b) 1 = 1; omega)
            refine gX_aloadn dX12_parent_44 rfl ?_
            refine gX_iloadn dX12_parent_45 rfl ?_
            refine gX_iloadn dX12_parent_46 rfl ?_
            refine gX_virt (J := iX12_findTree) (av := [gi ro, gi se]) (a := 775) (st := []) dX12_parent_47 lkX12_455 kX12_findTree vX12_findTree (gFit_m (by decide)) hM.1 rfl rfl (Nat.le_of_ble_eq_true rfl) (Nat.zero_le _) (Nat.zero_le _) rfl ?_
            refine m_findTree hM hS hr1 hss hi1 (fun V1 hp1 hs1 hf1 => ?_)
            show gX l E _ 50 [some (ga 775), some (gi ro), some (gi se), some (gi b)] [] (K, R, V1) _ _
            refine gX_aloadn dX12_parent_50 rfl ?_
            refine gX_gR 63 dX12_parent_51 fdX12_141 rfl rfl hM.1 (mR63 hM) ?_
            refine gX_iloadn dX12_parent_54 rfl ?_
            refine gX_iald dX12_parent_55 (mA63 hM) (by omega) (by omega) ?_
            rw [hp1 b hi2]
            refine gX_iret dX12_parent_56 (Or.inl rfl) ?_
            have ea : aParent S ro se b = lat (gtT S ro se).1 b := by
              unfold aParent
              rw [if_pos ⟨(isS_iff hn1 hse).mpr hss, hi1, hi2⟩]
            rw [ea] at hQ
            exact hQ V1 hf1.q
          · refine gX_sipush dX12_parent_40 (by decide) ⟨by decide, by decide⟩ ?_
            refine gX_iret dX12_parent_43 (Or.inl rfl) ?_
            have ea : aParent S ro se b = -1001 := by
              unfold aParent
              rw [if_neg (fun z => ?_)]
              have z1 := (isS_iff hn1 hse).mp z.1
              have z2 := in_bk hn1 z1 z.2.1
              have z3 := in_bk hn1 z1 z.2.2
              have z4 : gand (gshr se ro) 1 = 1 := (inB_bt ⟨by omega, by omega⟩).mp z.2.1
              have z5 : gand (gshr se b) 1 = 1 := (inB_bt ⟨by omega, by omega⟩).mp z.2.2
              omega
            rw [ea] at hQ
            exact hQ V qFr.rf
set_option maxRecDepth 4000 in
theorem m_tree (hM : mdK K R) (hS : mdIs V S) (hse : in32 se) (hQ : ∀ V', qFr V V' → Q (some (gi (aTree S ro se w))) (K, R, V')) : gC l E (d + 4) iX12_tree [ga 775, gi ro, gi se, gi w] (K, R, V) Q := by
  refine gC_of kX12_tree (ls := [some (ga 775), some (gi ro), some (gi se), some (gi w), none, none]) rfl (Nat.le_of_ble_eq_true rfl) ?_
  have hn0 := hS.1
  have hn1 := hS.2.1
  have hgp := gshl_pw hn1
  have hp2 := p2_le hn1
  refine gX_aloadn dX12_tree_0 rfl ?_
  refine gX_iloadn dX12_tree_1 rfl ?_
  refine gX_virt (J := iX12_isBook) (av := [gi ro]) (a := 775) (st := []) dX12_tree_2 lkX12_371 kX12_isBook vX12_isBook (gFit_m (by decide)) hM.1 rfl rfl (Nat.le_of_ble_eq_true rfl) (Nat.zero_le _) (Nat.zero_le _) rfl ?_
  refine m_isBook hM hS.1 hS.2.1 ?_
  show gX l E _ 5 [some (ga 775), some (gi ro), some (gi se), some (gi w), none, none] [gi (b2i (inR ro 0 ((S.1.length : Int) - 1)))] (K, R, V) _ _
  refine gX_ifeq (tgt := 24) dX12_tree_5 (by decide) (fun m1 => ?_) (fun m1 => ?_)
  · have m1 := inR_0 m1
    refine gX_sipush dX12_tree_24 (by decide) ⟨by decide, by decide⟩ ?_
    refine gX_iret dX12_tree_27 (Or.inl rfl) ?_
    have ea : aTree S ro se w = -1001 := by
      unfold aTree
      rw [if_neg (fun z => ?_)]
      have z1 := (isS_iff hn1 hse).mp z.1
      have z2 := in_bk hn1 z1 z.2
      have z4 : gand (gshr se ro) 1 = 1 := (inB_bt ⟨by omega, by omega⟩).mp z.2
      omega
    rw [ea] at hQ
    exact hQ V qFr.rf
  · have m1 := inR_1 m1
    refine gX_aloadn dX12_tree_8 rfl ?_
    refine gX_iloadn dX12_tree_9 rfl ?_
    refine gX_virt (J := iX12_areBooks) (av := [gi se]) (a := 775) (st := []) dX12_tree_10 lkX12_434 kX12_areBooks vX12_areBooks (gFit_m (by decide)) hM.1 rfl rfl (Nat.le_of_ble_eq_true rfl) (Nat.zero_le _) (Nat.zero_le _) rfl ?_
    refine m_areBooks hM hS.1 hS.2.1 ?_
    show gX l E _ 13 [some (ga 775), some (gi ro), some (gi se), some (gi w), none, none] [gi (b2i (inR se 0 (gshl 1 (S.1.length : Int) - 1)))] (K, R, V) _ _
    refine gX_ifeq (tgt := 24) dX12_tree_13 (by decide) (fun m2 => ?_) (fun m2 => ?_)
    · have m2 := inR_0 m2
      refine gX_sipush dX12_tree_24 (by decide) ⟨by decide, by decide⟩ ?_
      refine gX_iret dX12_tree_27 (Or.inl rfl) ?_
      have ea : aTree S ro se w = -1001 := by
        unfold aTree
        rw [if_neg (fun z => ?_)]
        have z1 := (isS_iff hn1 hse).mp z.1
        have z2 := in_bk hn1 z1 z.2
        have z4 : gand (gshr se ro) 1 = 1 := (inB_bt ⟨by omega, by omega⟩).mp z.2
        omega
      rw [ea] at hQ
      exact hQ V qFr.rf
    · have m2 := inR_1 m2
      refine gX_iloadn dX12_tree_16 rfl ?_
      refine gX_iloadn dX12_tree_17 rfl ?_
      refine gX_ishr dX12_tree_18 ?_
      refine gX_iconst dX12_tree_19 ⟨by decide, by decide⟩ ?_
      refine gX_iand dX12_tree_20 ?_
      refine gX_ifne (tgt := 28) dX12_tree_21 (by decide) (fun m3 => ?_) (fun m3 => ?_)
      · have hr1 : 0 ≤ ro ∧ ro < S.1.length := ⟨by omega, by omega⟩
        have hss : 0 ≤ se ∧ se < ((2 ^ S.1.length : Nat) : Int) := ⟨by omega, by omega⟩
        have hi1 : inB se ro = true := (inB_bt ⟨by omega, by omega⟩).mpr (by have := bt_01 (se := se) (b := ro) ⟨by omega, by omega⟩ ⟨by omega, by omega⟩; show gand (gshr se ro) 1 = 1; omega)
        refine gX_iloadn dX12_tree_28 rfl ?_
        refine gX_i2l dX12_tree_29 ?_
        refine gX_lconst (x := 0) dX12_tree_30 (by decide) ⟨by decide, by decide⟩ ?_
        refine gX_lconst (x := 1) dX12_tree_31 (by decide) ⟨by decide, by decide⟩ ?_
        refine gX_stat (J := iX12_in) (av := [gl w, gl 0, gl 1]) (st := []) dX12_tree_32 lkX12_154 kX12_in sX12_in (gFit_m (by decide)) rfl (Nat.le_of_ble_eq_true rfl) (Nat.zero_le _) (Nat.zero_le _) rfl ?_
        refine m_in ?_
        show gX l E _ 35 [some (ga 775), some (gi ro), some (gi se), some (gi w), none, none] [gi (b2i (inR w 0 1))] (K, R, V) _ _
        refine gX_ifne (tgt := 42) dX12_tree_35 (by decide) (fun m4 => ?_) (fun m4 => ?_)
        · have m4 := inR_1 m4
          refine gX_aloadn dX12_tree_42 rfl ?_
          refine gX_iloadn dX12_tree_43 rfl ?_
          refine gX_iloadn dX12_tree_44 rfl ?_
          refine gX_virt (J := iX12_findTree) (av := [gi ro, gi se]) (a := 775) (st := []) dX12_tree_45 lkX12_455 kX12_findTree vX12_findTree (gFit_m (by decide)) hM.1 rfl rfl (Nat.le_of_ble_eq_true rfl) (Nat.zero_le _) (Nat.zero_le _) rfl ?_
          refine m_findTree hM hS hr1 hss hi1 (fun V1 hp1 hs1 hf1 => ?_)
          show gX l E _ 48 [some (ga 775), some (gi ro), some (gi se), some (gi w), none, none] [] (K, R, V1) _ _
          refine gX_iconst dX12_tree_48 ⟨by decide, by decide⟩ ?_
          refine gX_istore dX12_tree_49 (show (4 : Nat) < 6 from by decide) (ls2 := [some (ga 775), some (gi ro), some (gi se), some (gi w), some (gi 0), none]) rfl ?_
          refine gX_iconst dX12_tree_51 ⟨by decide, by decide⟩ ?_
          refine gX_istore dX12_tree_52 (show (5 : Nat) < 6 from by decide) (ls2 := [some (ga 775), some (gi ro), some (gi se), some (gi w), some (gi 0), some (gi 0)]) rfl ?_
          have lp : ∀ (jj : Nat) (b : Int) (n : Int) (bc bs : Nat), (S.1.length : Int) - b < (jj : Int) → 0 ≤ b → b ≤ S.1.length → 0 ≤ n → n ≤ b → (Q (some (gi (if w = 0 then (gtT S ro se).2 else asF S (gtT S ro se).1 ro se (S.1.length - b.toNat) b n))) (K, R, V1)) → gX l E (gFm E (d + 4) iX12_tree Q) 54 [some (ga 775), some (gi ro), some (gi se), some (gi w), some (gi n), some (gi b)] [] (K, R, V1) bc bs := by
            intro jj
            induction jj with
            | zero =>
              intro b n bc bs hj q0 q1 q2 q3 hq2
              exfalso; omega
            | succ jj ih =>
              intro b n bc bs hj q0 q1 q2 q3 hq2
              refine gX_iload dX12_tree_54 rfl ?_
              refine gX_aloadn dX12_tree_56 rfl ?_
              refine gX_gI 0 dX12_tree_57 fdX12_151 rfl (Or.inl rfl) hM.1 ?_
              rw [show V1 775 0 = (S.1.length : Int) by rw [hf1.2 0 (by omega)]; exact hS.1]
              refine gX_icmpge (tgt := 112) dX12_tree_60 (by decide) (fun w1 => ?_) (fun w1 => ?_)
              · refine gX_iloadn dX12_tree_112 rfl ?_
                refine gX_ifne (tgt := 123) dX12_tree_113 (by decide) (fun w2 => ?_) (fun w2 => ?_)
                · refine gX_iload dX12_tree_123 rfl ?_
                  refine gX_iret dX12_tree_125 (Or.inl rfl) ?_
                  rw [if_neg (by omega), show S.1.length - b.toNat = 0 by omega] at hq2
                  exact hq2
                · refine gX_aloadn dX12_tree_116 rfl ?_
                  refine gX_gI 64 dX12_tree_117 fdX12_452 rfl (Or.inl rfl) hM.1 ?_
                  rw [hs1]
                  refine gX_goto (tgt := 125) dX12_tree_120 (by decide) ?_
                  refine gX_iret dX12_tree_125 (Or.inl rfl) ?_
                  rw [if_pos (by omega)] at hq2
                  exact hq2
              · refine gX_iload dX12_tree_63 rfl ?_
                refine gX_iloadn dX12_tree_65 rfl ?_
                refine gX_iload dX12_tree_66 rfl ?_
                refine gX_ishr dX12_tree_68 ?_
                refine gX_iconst dX12_tree_69 ⟨by decide, by decide⟩ ?_
                refine gX_iand dX12_tree_70 ?_
                refine gX_iconst dX12_tree_71 ⟨by decide, by decide⟩ ?_
                refine gX_icmpne (tgt := 102) dX12_tree_72 (by decide) (fun w3 => ?_) (fun w3 => ?_)
                · refine gX_iconst dX12_tree_102 ⟨by decide, by decide⟩ ?_
                  refine gX_iadd dX12_tree_103 ⟨by omega, by omega⟩ ?_
                  refine gX_istore dX12_tree_104 (show (4 : Nat) < 6 from by decide) (ls2 := [some (ga 775), some (gi ro), some (gi se), some (gi w), some (gi (n + 0)), some (gi b)]) rfl ?_
                  refine gX_iinc dX12_tree_106 rfl (show (5 : Nat) < 6 from by decide) ⟨by omega, by omega⟩ (ls2 := [some (ga 775), some (gi ro), some (gi se), some (gi w), some (gi (n + 0)), some (gi (b + 1))]) rfl ?_
                  refine gX_goto (tgt := 54) dX12_tree_109 (by decide) ?_
                  have ek : S.1.length - b.toNat = (S.1.length - (b + 1).toNat) + 1 := by omega
                  have e1 : asF S (gtT S ro se).1 ro se (S.1.length - b.toNat) b n = asF S (gtT S ro se).1 ro se (S.1.length - (b + 1).toNat) (b + 1) (n) := by
                    rw [ek]
                    show asF S _ ro se _ _ (if _ then _ else _) = _
                    rw [if_neg (by rintro ⟨z1, z2, z3⟩; have z4 : gand (gshr se b) 1 = 1 := (inB_bt ⟨by omega, by omega⟩).mp z2; first | omega | exact absurd z4 (by assumption))]
                  rw [e1] at hq2
                  exact ih (b + 1) _ _ _ (by omega) (by omega) (by omega) (by omega) (by omega) (by rw [show n + 0 = n by omega]; exact hq2)
                · refine gX_iload dX12_tree_75 rfl ?_
                  refine gX_iloadn dX12_tree_77 rfl ?_
                  refine gX_icmpeq (tgt := 102) dX12_tree_78 (by decide) (fun w4 => ?_) (fun w4 => ?_)
                  · refine gX_iconst dX12_tree_102 ⟨by decide, by decide⟩ ?_
                    refine gX_iadd dX12_tree_103 ⟨by omega, by omega⟩ ?_
                    refine gX_istore dX12_tree_104 (show (4 : Nat) < 6 from by decide) (ls2 := [some (ga 775), some (gi ro), some (gi se), some (gi w), some (gi (n + 0)), some (gi b)]) rfl ?_
                    refine gX_iinc dX12_tree_106 rfl (show (5 : Nat) < 6 from by decide) ⟨by omega, by omega⟩ (ls2 := [some (ga 775), some (gi ro), some (gi se), some (gi w), some (gi (n + 0)), some (gi (b + 1))]) rfl ?_
                    refine gX_goto (tgt := 54) dX12_tree_109 (by decide) ?_
                    have ek : S.1.length - b.toNat = (S.1.length - (b + 1).toNat) + 1 := by omega
                    have e1 : asF S (gtT S ro se).1 ro se (S.1.length - b.toNat) b n = asF S (gtT S ro se).1 ro se (S.1.length - (b + 1).toNat) (b + 1) (n) := by
                      rw [ek]
                      show asF S _ ro se _ _ (if _ then _ else _) = _
                      rw [if_neg (by rintro ⟨z1, z2, z3⟩; have z4 : gand (gshr se b) 1 = 1 := (inB_bt ⟨by omega, by omega⟩).mp z2; first | omega | exact absurd z4 (by assumption))]
                    rw [e1] at hq2
                    exact ih (b + 1) _ _ _ (by omega) (by omega) (by omega) (by omega) (by omega) (by rw [show n + 0 = n by omega]; exact hq2)
                  · refine gX_aloadn dX12_tree_81 rfl ?_
                    refine gX_gR 63 dX12_tree_82 fdX12_141 rfl rfl hM.1 (mR63 hM) ?_
                    refine gX_iload dX12_tree_85 rfl ?_
                    refine gX_iald dX12_tree_87 (mA63 hM) (by omega) (by omega) ?_
                    rw [hp1 b ((inB_bt ⟨by omega, by omega⟩).mpr (by assumption))]
                    refine gX_aloadn dX12_tree_88 rfl ?_
                    refine gX_gR 11 dX12_tree_89 fdX12_40 rfl rfl hM.1 (mR11 hM) ?_
                    refine gX_iload dX12_tree_92 rfl ?_
                    refine gX_iald dX12_tree_94 (mA11 hM) (by omega) (by omega) ?_
                    rw [show V1 786 b = (gbq S b).2.2.1 by rw [hf1.1 786 (by omega) (by omega) (by omega)]; exact (hS.2.2.2.1 b (by omega) (by omega)).2.2.1]
                    refine gX_icmpeq (tgt := 102) dX12_tree_95 (by decide) (fun w5 => ?_) (fun w5 => ?_)
                    · refine gX_iconst dX12_tree_102 ⟨by decide, by decide⟩ ?_
                      refine gX_iadd dX12_tree_103 ⟨by omega, by omega⟩ ?_
                      refine gX_istore dX12_tree_104 (show (4 : Nat) < 6 from by decide) (ls2 := [some (ga 775), some (gi ro), some (gi se), some (gi w), some (gi (n + 0)), some (gi b)]) rfl ?_
                      refine gX_iinc dX12_tree_106 rfl (show (5 : Nat) < 6 from by decide) ⟨by omega, by omega⟩ (ls2 := [some (ga 775), some (gi ro), some (gi se), some (gi w), some (gi (n + 0)), some (gi (b + 1))]) rfl ?_
                      refine gX_goto (tgt := 54) dX12_tree_109 (by decide) ?_
                      have ek : S.1.length - b.toNat = (S.1.length - (b + 1).toNat) + 1 := by omega
                      have e1 : asF S (gtT S ro se).1 ro se (S.1.length - b.toNat) b n = asF S (gtT S ro se).1 ro se (S.1.length - (b + 1).toNat) (b + 1) (n) := by
                        rw [ek]
                        show asF S _ ro se _ _ (if _ then _ else _) = _
                        rw [if_neg (by rintro ⟨z1, z2, z3⟩; have z4 : gand (gshr se b) 1 = 1 := (inB_bt ⟨by omega, by omega⟩).mp z2; first | omega | exact absurd z4 (by assumption))]
                      rw [e1] at hq2
                      exact ih (b + 1) _ _ _ (by omega) (by omega) (by omega) (by omega) (by omega) (by rw [show n + 0 = n by omega]; exact hq2)
                    · refine gX_iconst dX12_tree_98 ⟨by decide, by decide⟩ ?_
                      refine gX_goto (tgt := 103) dX12_tree_99 (by decide) ?_
                      refine gX_iadd dX12_tree_103 ⟨by omega, by omega⟩ ?_
                      refine gX_istore dX12_tree_104 (show (4 : Nat) < 6 from by decide) (ls2 := [some (ga 775), some (gi ro), some (gi se), some (gi w), some (gi (n + 1)), some (gi b)]) rfl ?_
                      refine gX_iinc dX12_tree_106 rfl (show (5 : Nat) < 6 from by decide) ⟨by omega, by omega⟩ (ls2 := [some (ga 775), some (gi ro), some (gi se), some (gi w), some (gi (n + 1)), some (gi (b + 1))]) rfl ?_
                      refine gX_goto (tgt := 54) dX12_tree_109 (by decide) ?_
                      have ek : S.1.length - b.toNat = (S.1.length - (b + 1).toNat) + 1 := by omega
                      have e1 : asF S (gtT S ro se).1 ro se (S.1.length - b.toNat) b n = asF S (gtT S ro se).1 ro se (S.1.length - (b + 1).toNat) (b + 1) (n + 1) := by
                        rw [ek]
                        show asF S _ ro se _ _ (if _ then _ else _) = _
                        rw [if_pos ⟨by omega, (inB_bt ⟨by omega, by omega⟩).mpr (by assumption), by omega⟩]
                      rw [e1] at hq2
                      exact ih (b + 1) _ _ _ (by omega) (by omega) (by omega) (by omega) (by omega) hq2
          have ea : aTree S ro se w = (if w = 0 then (gtT S ro se).2 else asF S (gtT S ro se).1 ro se S.1.length 0 0) := by
            unfold aTree
            rw [if_pos ⟨(isS_iff hn1 hse).mpr hss, hi1⟩, if_pos (by omega)]
          have hQ2 := hQ V1 hf1.q
          rw [ea] at hQ2
          exact lp (S.1.length + 1) 0 0 _ _ (by omega) (by omega) (by omega) (by omega) (by omega) hQ2
        · have m4 := inR_0 m4
          refine gX_sipush dX12_tree_38 (by decide) ⟨by decide, by decide⟩ ?_
          refine gX_iret dX12_tree_41 (Or.inl rfl) ?_
          have ea : aTree S ro se w = -1002 := by
            unfold aTree
            rw [if_pos ⟨(isS_iff hn1 hse).mpr hss, hi1⟩, if_neg (by omega)]
          rw [ea] at hQ
          exact hQ V qFr.rf
      · refine gX_sipush dX12_tree_24 (by decide) ⟨by decide, by decide⟩ ?_
        refine gX_iret dX12_tree_27 (Or.inl rfl) ?_
        have ea : aTree S ro se w = -1001 := by
          unfold aTree
          rw [if_neg (fun z => ?_)]
          have z1 := (isS_iff hn1 hse).mp z.1
          have z2 := in_bk hn1 z1 z.2
          have z4 : gand (gshr se ro) 1 = 1 := (inB_bt ⟨by omega, by omega⟩).mp z.2
          omega
        rw [ea] at hQ
        exact hQ V qFr.rf
end MD8
