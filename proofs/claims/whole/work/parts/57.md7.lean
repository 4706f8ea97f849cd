/-! The reference: clashes, what is sound. Written by wip/whole/tools/mk_md7.py. -/
def crI (gr : List Int) (a : Int) : Nat → Int → Int → Int
  | 0, _, n => n
  | j + 1, b, n => crI gr a j (b + 1) (if cla (lat gr a) (lat gr b) = true then n + 1 else n)
def crF (gr : List Int) : Nat → Int → Int → Int
  | 0, _, n => n
  | j + 1, a, n => crF gr j (a + 1) (crI gr a (gr.length - (a + 1).toNat) (a + 1) n)
theorem crI_bd {gr : List Int} {a : Int} : ∀ (j : Nat) (b n : Int), n ≤ crI gr a j b n ∧ crI gr a j b n ≤ n + j
  | 0, _, n => ⟨Int.le_refl _, by show n ≤ n + ((0 : Nat) : Int); omega⟩
  | j + 1, b, n => by
    have h := crI_bd (gr := gr) (a := a) j (b + 1) (if cla (lat gr a) (lat gr b) = true then n + 1 else n)
    show n ≤ crI gr a j (b + 1) _ ∧ crI gr a j (b + 1) _ ≤ _
    by_cases c : cla (lat gr a) (lat gr b) = true
    · rw [if_pos c] at h ⊢; omega
    · rw [if_neg c] at h ⊢; omega
-- both count the pairs
def clC (gr : List Int) (a b : Nat) : Int := if cla (lat gr a) (lat gr b) = true then 1 else 0
theorem cla_sym (x y : Int) : cla x y = cla y x := by
  have e : gand x y = gand y x := by unfold gand; rw [Int32.and_comm]
  unfold cla
  rw [e, decide_eq_decide]
  constructor
  · rintro ⟨h1, h2, h3⟩; exact ⟨h1, h3, h2⟩
  · rintro ⟨h1, h2, h3⟩; exact ⟨h1, h3, h2⟩
theorem sumB_cg {f g : Nat → Int} : ∀ {n : Nat}, (∀ k, k < n → f k = g k) → sumB f n = sumB g n
  | 0, _ => rfl
  | n + 1, h => by rw [sumB_s, sumB_s, sumB_cg (fun k hk => h k (by omega)), h n (by omega)]
theorem sumB_add {f g : Nat → Int} : ∀ n : Nat, sumB (fun k => f k + g k) n = sumB f n + sumB g n
  | 0 => rfl
  | n + 1 => by rw [sumB_s, sumB_s, sumB_s, sumB_add n]; omega
theorem sumB_z {f : Nat → Int} : ∀ {n : Nat}, (∀ k, k < n → f k = 0) → sumB f n = 0
  | 0, _ => rfl
  | n + 1, h => by rw [sumB_s, sumB_z (fun k hk => h k (by omega)), h n (by omega)]; rfl
def upS (gr : List Int) (L : Nat) : Int := sumB (fun a => sumB (fun b => if a < b then clC gr a b else 0) L) L
theorem upS_s (gr : List Int) (L : Nat) : upS gr (L + 1) = upS gr L + sumB (fun a => clC gr a L) L := by
  unfold upS
  rw [sumB_s, sumB_z (n := L + 1) (fun k hk => if_neg (by omega)), Int.add_zero, ← sumB_add]
  refine sumB_cg fun a ha => ?_
  rw [sumB_s, if_pos ha]
theorem crI_sum {gr : List Int} {a : Nat} : ∀ (j b : Nat) (n : Int), a < b → crI gr a j b n + sumB (fun k => if a < k then clC gr a k else 0) b = n + sumB (fun k => if a < k then clC gr a k else 0) (b + j)
  | 0, b, n, _ => rfl
  | j + 1, b, n, h => by
    show crI gr a j ((b : Int) + 1) _ + _ = _
    have e := crI_sum (gr := gr) (a := a) j (b + 1) (if cla (lat gr a) (lat gr b) = true then n + 1 else n) (by omega)
    rw [sumB_s, if_pos h] at e
    rw [show ((b + 1 : Nat) : Int) = (b : Int) + 1 by omega, show b + 1 + j = b + (j + 1) by omega] at e
    unfold clC at e
    by_cases c : cla (lat gr a) (lat gr b) = true
    · rw [if_pos c] at e ⊢
      rw [if_pos c] at e
      unfold clC
      omega
    · rw [if_neg c] at e ⊢
      rw [if_neg c] at e
      unfold clC
      omega
theorem crF_sum {gr : List Int} : ∀ (j a : Nat) (n : Int), a + j = gr.length → crF gr j a n + sumB (fun a => sumB (fun b => if a < b then clC gr a b else 0) gr.length) a = n + upS gr gr.length
  | 0, a, n, h => by
    have e : a = gr.length := by omega
    rw [e]
    rfl
  | j + 1, a, n, h => by
    show crF gr j ((a : Int) + 1) (crI gr a (gr.length - ((a : Int) + 1).toNat) ((a : Int) + 1) n) + _ = _
    have e := crF_sum (gr := gr) j (a + 1) (crI gr a (gr.length - (a + 1)) ((a + 1 : Nat) : Int) n) (by omega)
    have e2 := crI_sum (gr := gr) (a := a) (gr.length - (a + 1)) (a + 1) n (by omega)
    rw [show a + 1 + (gr.length - (a + 1)) = gr.length by omega] at e2
    rw [sumB_z (n := a + 1) (fun k hk => if_neg (by omega))] at e2
    rw [sumB_s] at e
    rw [show ((a : Int) + 1).toNat = a + 1 by omega, show (a : Int) + 1 = ((a + 1 : Nat) : Int) by omega]
    omega
theorem cpI_sum {gr : List Int} {i : Nat} : ∀ (j k : Nat) (n : Int), cpI gr i j k n + sumB (fun k => clC gr k i) k = n + sumB (fun k => clC gr k i) (k + j)
  | 0, k, n => rfl
  | j + 1, k, n => by
    show cpI gr i j ((k : Int) + 1) _ + _ = _
    have e := cpI_sum (gr := gr) (i := i) j (k + 1) (if cla (lat gr i) (lat gr k) = true then n + 1 else n)
    rw [sumB_s] at e
    rw [show ((k + 1 : Nat) : Int) = (k : Int) + 1 by omega, show k + 1 + j = k + (j + 1) by omega] at e
    have e3 : clC gr k i = if cla (lat gr i) (lat gr k) = true then 1 else 0 := by unfold clC; rw [cla_sym]
    rw [e3] at e
    by_cases c : cla (lat gr i) (lat gr k) = true
    · rw [if_pos c] at e ⊢
      rw [if_pos c] at e
      omega
    · rw [if_neg c] at e ⊢
      rw [if_neg c] at e
      omega
theorem cpF_sum {gr : List Int} : ∀ (j i : Nat) (n : Int), cpF gr j i n + upS gr i = n + upS gr (i + j)
  | 0, i, n => rfl
  | j + 1, i, n => by
    show cpF gr j ((i : Int) + 1) (cpI gr i (i : Int).toNat 0 n) + _ = _
    have e := cpF_sum (gr := gr) j (i + 1) (cpI gr i i ((0 : Nat) : Int) n)
    have e2 := cpI_sum (gr := gr) (i := i) i 0 n
    rw [Nat.zero_add] at e2
    rw [upS_s, show i + 1 + j = i + (j + 1) by omega, show ((i + 1 : Nat) : Int) = (i : Int) + 1 by omega] at e
    rw [show ((i : Nat) : Int).toNat = i by omega]
    have e4 : sumB (fun k => clC gr k i) 0 = 0 := rfl
    rw [e4] at e2
    show cpF gr j ((i : Int) + 1) (cpI gr i i ((0 : Nat) : Int) n) + _ = _
    omega
theorem crF_cpF (gr : List Int) : crF gr gr.length 0 0 = cpF gr gr.length 0 0 := by
  have e1 : crF gr gr.length ((0 : Nat) : Int) 0 + 0 = 0 + upS gr gr.length := crF_sum gr.length 0 0 (by omega)
  have e2 : cpF gr gr.length ((0 : Nat) : Int) 0 + upS gr 0 = 0 + upS gr (0 + gr.length) := cpF_sum gr.length 0 0
  rw [Nat.zero_add] at e2
  have e3 : upS gr 0 = 0 := rfl
  have e4 : crF gr gr.length ((0 : Nat) : Int) 0 = cpF gr gr.length ((0 : Nat) : Int) 0 := by omega
  exact e4
section MD7
variable {l : Launch} {E : gE} {d : Nat} {K : List gK} {R V : Int → Int → Int} {a b i w ba se r : Int} {Q : gQ} {S : gbS}
set_option maxRecDepth 4000 in
theorem m_clash (hM : mdK K R) (hS : mdIs V S) (hse : in32 se) (hgq : 0 ≤ ba ∧ ba < S.1.length → 0 ≤ se ∧ se < ((2 ^ S.1.length : Nat) : Int) → rgL S ba se = grpL S ba se) (hQ : ∀ V', qFr V V' → Q (some (gi (aClash S ba se))) (K, R, V')) : gC l E (d + 6) iX12_clash [ga 775, gi ba, gi se] (K, R, V) Q := by
  refine gC_of kX12_clash (ls := [some (ga 775), some (gi ba), some (gi se), none, none, none]) rfl (Nat.le_of_ble_eq_true rfl) ?_
  have hn0 := hS.1
  have hn1 := hS.2.1
  have hgp := gshl_pw hn1
  have hp2 := p2_le hn1
  refine gX_aloadn dX12_clash_0 rfl ?_
  refine gX_iloadn dX12_clash_1 rfl ?_
  refine gX_virt (J := iX12_isBook) (av := [gi ba]) (a := 775) (st := []) dX12_clash_2 lkX12_371 kX12_isBook vX12_isBook (gFit_m (by decide)) hM.1 rfl rfl (Nat.le_of_ble_eq_true rfl) (Nat.zero_le _) (Nat.zero_le _) rfl ?_
  refine m_isBook hM hS.1 hS.2.1 ?_
  show gX l E _ 5 [some (ga 775), some (gi ba), some (gi se), none, none, none] [gi (b2i (inR ba 0 ((S.1.length : Int) - 1)))] (K, R, V) _ _
  refine gX_ifeq (tgt := 16) dX12_clash_5 (by decide) (fun m1 => ?_) (fun m1 => ?_)
  · have m1 := inR_0 m1
    refine gX_sipush dX12_clash_16 (by decide) ⟨by decide, by decide⟩ ?_
    refine gX_iret dX12_clash_19 (Or.inl rfl) ?_
    have ea : aClash S ba se = -1001 := by
      unfold aClash
      rw [if_neg (by rintro ⟨z1, z2⟩; have z3 := (isS_iff hn1 hse).mp z2; omega)]
    rw [ea] at hQ
    exact hQ V qFr.rf
  · have m1 := inR_1 m1
    refine gX_aloadn dX12_clash_8 rfl ?_
    refine gX_iloadn dX12_clash_9 rfl ?_
    refine gX_virt (J := iX12_areBooks) (av := [gi se]) (a := 775) (st := []) dX12_clash_10 lkX12_434 kX12_areBooks vX12_areBooks (gFit_m (by decide)) hM.1 rfl rfl (Nat.le_of_ble_eq_true rfl) (Nat.zero_le _) (Nat.zero_le _) rfl ?_
    refine m_areBooks hM hS.1 hS.2.1 ?_
    show gX l E _ 13 [some (ga 775), some (gi ba), some (gi se), none, none, none] [gi (b2i (inR se 0 (gshl 1 (S.1.length : Int) - 1)))] (K, R, V) _ _
    refine gX_ifne (tgt := 20) dX12_clash_13 (by decide) (fun m2 => ?_) (fun m2 => ?_)
    · have m2 := inR_1 m2
      have hr1 : 0 ≤ ba ∧ ba < S.1.length := ⟨by omega, by omega⟩
      have hk1 := (hS.2.2.2.1 ba hr1.1 hr1.2).1.tx
      rw [show (gbq S ba).1 = gbX S ba from rfl] at hk1
      have hq40 := hk1.2.1
      have hss : 0 ≤ se ∧ se < ((2 ^ S.1.length : Nat) : Int) := ⟨by omega, by omega⟩
      have heq := hgq hr1 hss
      refine gX_aloadn dX12_clash_20 rfl ?_
      refine gX_iloadn dX12_clash_21 rfl ?_
      refine gX_iloadn dX12_clash_22 rfl ?_
      refine gX_virt (J := iX12_findGroups) (av := [gi ba, gi se]) (a := 775) (st := []) dX12_clash_23 lkX12_446 kX12_findGroups vX12_findGroups (gFit_m (by decide)) hM.1 rfl rfl (Nat.le_of_ble_eq_true rfl) (Nat.zero_le _) (Nat.zero_le _) rfl ?_
      refine m_findGroups hM hS hr1 (fun V1 hg1 hl1 hf1 => ?_)
      show gX l E _ 26 [some (ga 775), some (gi ba), some (gi se), none, none, none] [] (K, R, V1) _ _
      obtain ⟨gr, egr⟩ : ∃ gr, gr = rgL S ba se := ⟨_, rfl⟩
      rw [← egr] at hg1 hl1
      refine gX_iconst dX12_clash_26 ⟨by decide, by decide⟩ ?_
      refine gX_istoren dX12_clash_27 (show (3 : Nat) < 6 from by decide) (ls2 := [some (ga 775), some (gi ba), some (gi se), some (gi 0), none, none]) rfl ?_
      refine gX_iconst dX12_clash_28 ⟨by decide, by decide⟩ ?_
      refine gX_istore dX12_clash_29 (show (4 : Nat) < 6 from by decide) (ls2 := [some (ga 775), some (gi ba), some (gi se), some (gi 0), some (gi 0), none]) rfl ?_
      have la : ∀ (jj : Nat) (a : Int) (n : Int) (j5 : Option gV) (bc bs : Nat), (gr.length : Int) - a < (jj : Int) → 0 ≤ a → a ≤ (gr.length : Int) → 0 ≤ n → n ≤ 1000 * a → (Q (some (gi (crF gr (gr.length - a.toNat) a n))) (K, R, V1)) → gX l E (gFm E (d + 6) iX12_clash Q) 31 [some (ga 775), some (gi ba), some (gi se), some (gi n), some (gi a), j5] [] (K, R, V1) bc bs := by
        intro jj
        induction jj with
        | zero =>
          intro a n j5 bc bs hj a0 a1 n0 n1 hq2
          exfalso; omega
        | succ jj ih =>
          intro a n j5 bc bs hj a0 a1 n0 n1 hq2
          refine gX_iload dX12_clash_31 rfl ?_
          refine gX_aloadn dX12_clash_33 rfl ?_
          refine gX_gI 62 dX12_clash_34 fdX12_440 rfl (Or.inl rfl) hM.1 ?_
          rw [hg1.1]
          refine gX_icmpge (tgt := 95) dX12_clash_37 (by decide) (fun a1 => ?_) (fun a1 => ?_)
          · refine gX_iloadn dX12_clash_95 rfl ?_
            refine gX_iret dX12_clash_96 (Or.inl rfl) ?_
            have ei : gr.length - a.toNat = 0 := by omega
            rw [ei] at hq2
            exact hq2
          · refine gX_iload dX12_clash_40 rfl ?_
            refine gX_iconst dX12_clash_42 ⟨by decide, by decide⟩ ?_
            refine gX_iadd dX12_clash_43 ⟨by omega, by omega⟩ ?_
            refine gX_istore dX12_clash_44 (show (5 : Nat) < 6 from by decide) (ls2 := [some (ga 775), some (gi ba), some (gi se), some (gi n), some (gi a), some (gi (a + 1))]) rfl ?_
            have lb : ∀ (jj : Nat) (b : Int) (n : Int) (bc bs : Nat), (gr.length : Int) - b < (jj : Int) → a < b → b ≤ (gr.length : Int) → 0 ≤ n → n ≤ 1000 * a + b → (∀ n2 b2 bc bs, n2 = crI gr a (gr.length - b.toNat) b n → gX l E (gFm E (d + 6) iX12_clash Q) 89 [some (ga 775), some (gi ba), some (gi se), some (gi n2), some (gi a), b2] [] (K, R, V1) bc bs) → gX l E (gFm E (d + 6) iX12_clash Q) 46 [some (ga 775), some (gi ba), some (gi se), some (gi n), some (gi a), some (gi b)] [] (K, R, V1) bc bs := by
              intro jj
              induction jj with
              | zero =>
                intro b n bc bs hj b0 b1 n0 n1 hk2
                exfalso; omega
              | succ jj ih =>
                intro b n bc bs hj b0 b1 n0 n1 hk2
                refine gX_iload dX12_clash_46 rfl ?_
                refine gX_aloadn dX12_clash_48 rfl ?_
                refine gX_gI 62 dX12_clash_49 fdX12_440 rfl (Or.inl rfl) hM.1 ?_
                rw [hg1.1]
                refine gX_icmpge (tgt := 89) dX12_clash_52 (by decide) (fun b1 => ?_) (fun b1 => ?_)
                · have ei : gr.length - b.toNat = 0 := by omega
                  rw [ei] at hk2
                  exact hk2 n _ _ _ rfl
                · refine gX_iloadn dX12_clash_55 rfl ?_
                  refine gX_aloadn dX12_clash_56 rfl ?_
                  refine gX_gR 61 dX12_clash_57 fdX12_138 rfl rfl hM.1 (mR61 hM) ?_
                  refine gX_iload dX12_clash_60 rfl ?_
                  refine gX_iald dX12_clash_62 (mA61 hM) (by omega) (by omega) ?_
                  rw [hg1.2 a (by omega) (by omega)]
                  refine gX_aloadn dX12_clash_63 rfl ?_
                  refine gX_gR 61 dX12_clash_64 fdX12_138 rfl rfl hM.1 (mR61 hM) ?_
                  refine gX_iload dX12_clash_67 rfl ?_
                  refine gX_iald dX12_clash_69 (mA61 hM) (by omega) (by omega) ?_
                  rw [hg1.2 b (by omega) (by omega)]
                  refine gX_stat (J := iX12_areClashing) (av := [gi (lat gr a), gi (lat gr b)]) (st := [gi n]) dX12_clash_70 lkX12_449 kX12_areClashing sX12_areClashing (gFit_m (by decide)) rfl (Nat.le_of_ble_eq_true rfl) (Nat.zero_le _) (Nat.zero_le _) rfl ?_
                  refine m_clashing ?_
                  show gX l E _ 73 [some (ga 775), some (gi ba), some (gi se), some (gi n), some (gi a), some (gi b)] [gi (b2i (cla (lat gr a) (lat gr b))), gi n] (K, R, V1) _ _
                  refine gX_ifeq (tgt := 80) dX12_clash_73 (by decide) (fun b2 => ?_) (fun b2 => ?_)
                  · refine gX_iconst dX12_clash_80 ⟨by decide, by decide⟩ ?_
                    refine gX_iadd dX12_clash_81 ⟨by omega, by omega⟩ ?_
                    refine gX_istoren dX12_clash_82 (show (3 : Nat) < 6 from by decide) (ls2 := [some (ga 775), some (gi ba), some (gi se), some (gi (n + 0)), some (gi a), some (gi b)]) rfl ?_
                    refine gX_iinc dX12_clash_83 rfl (show (5 : Nat) < 6 from by decide) ⟨by omega, by omega⟩ (ls2 := [some (ga 775), some (gi ba), some (gi se), some (gi (n + 0)), some (gi a), some (gi (b + 1))]) rfl ?_
                    refine gX_goto (tgt := 46) dX12_clash_86 (by decide) ?_
                    have ek : gr.length - b.toNat = (gr.length - (b + 1).toNat) + 1 := by omega
                    have e1 : crI gr a (gr.length - b.toNat) b n = crI gr a (gr.length - (b + 1).toNat) (b + 1) (n) := by
                      rw [ek]
                      show crI gr a _ _ (if _ then _ else _) = _
                      rw [if_neg (by rw [b2i_0 (b := cla (lat gr a) (lat gr b)) (by assumption)]; decide)]
                    rw [e1] at hk2
                    exact ih (b + 1) _ _ _ (by omega) (by omega) (by omega) (by omega) (by omega) (by rw [show n + 0 = n by omega]; exact hk2)
                  · refine gX_iconst dX12_clash_76 ⟨by decide, by decide⟩ ?_
                    refine gX_goto (tgt := 81) dX12_clash_77 (by decide) ?_
                    refine gX_iadd dX12_clash_81 ⟨by omega, by omega⟩ ?_
                    refine gX_istoren dX12_clash_82 (show (3 : Nat) < 6 from by decide) (ls2 := [some (ga 775), some (gi ba), some (gi se), some (gi (n + 1)), some (gi a), some (gi b)]) rfl ?_
                    refine gX_iinc dX12_clash_83 rfl (show (5 : Nat) < 6 from by decide) ⟨by omega, by omega⟩ (ls2 := [some (ga 775), some (gi ba), some (gi se), some (gi (n + 1)), some (gi a), some (gi (b + 1))]) rfl ?_
                    refine gX_goto (tgt := 46) dX12_clash_86 (by decide) ?_
                    have ek : gr.length - b.toNat = (gr.length - (b + 1).toNat) + 1 := by omega
                    have e1 : crI gr a (gr.length - b.toNat) b n = crI gr a (gr.length - (b + 1).toNat) (b + 1) (n + 1) := by
                      rw [ek]
                      show crI gr a _ _ (if _ then _ else _) = _
                      rw [if_pos (b2i_1 (b := cla (lat gr a) (lat gr b)) (by assumption))]
                    rw [e1] at hk2
                    exact ih (b + 1) _ _ _ (by omega) (by omega) (by omega) (by omega) (by omega) hk2
            refine lb (gr.length + 1) (a + 1) n _ _ (by omega) (by omega) (by omega) (by omega) (by omega) (fun n2 b2 bc bs hn2 => ?_)
            refine gX_iinc dX12_clash_89 rfl (show (4 : Nat) < 6 from by decide) ⟨by omega, by omega⟩ (ls2 := [some (ga 775), some (gi ba), some (gi se), some (gi n2), some (gi (a + 1)), b2]) rfl ?_
            refine gX_goto (tgt := 31) dX12_clash_92 (by decide) ?_
            have ek : gr.length - a.toNat = (gr.length - (a + 1).toNat) + 1 := by omega
            have e1 : crF gr (gr.length - a.toNat) a n = crF gr (gr.length - (a + 1).toNat) (a + 1) n2 := by
              rw [ek, hn2]
              rfl
            rw [e1] at hq2
            have hbd := crI_bd (gr := gr) (a := a) (gr.length - (a + 1).toNat) (a + 1) n
            rw [← hn2] at hbd
            exact ih (a + 1) _ _ _ _ (by omega) (by omega) (by omega) (by omega) (by omega) hq2
      have ea : aClash S ba se = crF gr gr.length 0 0 := by
        unfold aClash
        rw [if_pos ⟨hr1, (isS_iff hn1 hse).mpr hss⟩, ← heq, ← egr, crF_cpF]
      have hQ2 := hQ V1 hf1.q
      rw [ea] at hQ2
      exact la (gr.length + 1) 0 0 none _ _ (by omega) (by omega) (by omega) (by omega) (by omega) hQ2
    · have m2 := inR_0 m2
      refine gX_sipush dX12_clash_16 (by decide) ⟨by decide, by decide⟩ ?_
      refine gX_iret dX12_clash_19 (Or.inl rfl) ?_
      have ea : aClash S ba se = -1001 := by
        unfold aClash
        rw [if_neg (by rintro ⟨z1, z2⟩; have z3 := (isS_iff hn1 hse).mp z2; omega)]
      rw [ea] at hQ
      exact hQ V qFr.rf
set_option maxRecDepth 4000 in
theorem m_sound (hM : mdK K R) (hS : mdIs V S) (hse : in32 se) (hgq : 0 ≤ ba ∧ ba < S.1.length → 0 ≤ se ∧ se < ((2 ^ S.1.length : Nat) : Int) → rgL S ba se = grpL S ba se) (hQ : ∀ V', qFr V V' → Q (some (gi (aSound S ba se i))) (K, R, V')) : gC l E (d + 6) iX12_sound [ga 775, gi ba, gi se, gi i] (K, R, V) Q := by
  refine gC_of kX12_sound (ls := [some (ga 775), some (gi ba), some (gi se), some (gi i), none, none, none, none, none]) rfl (Nat.le_of_ble_eq_true rfl) ?_
  have hn0 := hS.1
  have hn1 := hS.2.1
  have hgp := gshl_pw hn1
  have hp2 := p2_le hn1
  refine gX_aloadn dX12_sound_0 rfl ?_
  refine gX_iloadn dX12_sound_1 rfl ?_
  refine gX_virt (J := iX12_isBook) (av := [gi ba]) (a := 775) (st := []) dX12_sound_2 lkX12_371 kX12_isBook vX12_isBook (gFit_m (by decide)) hM.1 rfl rfl (Nat.le_of_ble_eq_true rfl) (Nat.zero_le _) (Nat.zero_le _) rfl ?_
  refine m_isBook hM hS.1 hS.2.1 ?_
  show gX l E _ 5 [some (ga 775), some (gi ba), some (gi se), some (gi i), none, none, none, none, none] [gi (b2i (inR ba 0 ((S.1.length : Int) - 1)))] (K, R, V) _ _
  refine gX_ifeq (tgt := 16) dX12_sound_5 (by decide) (fun m1 => ?_) (fun m1 => ?_)
  · have m1 := inR_0 m1
    refine gX_sipush dX12_sound_16 (by decide) ⟨by decide, by decide⟩ ?_
    refine gX_iret dX12_sound_19 (Or.inl rfl) ?_
    have ea : aSound S ba se i = -1001 := by
      unfold aSound
      rw [if_neg (by rintro ⟨z1, z2⟩; have z3 := (isS_iff hn1 hse).mp z2; omega)]
    rw [ea] at hQ
    exact hQ V qFr.rf
  · have m1 := inR_1 m1
    refine gX_aloadn dX12_sound_8 rfl ?_
    refine gX_iloadn dX12_sound_9 rfl ?_
    refine gX_virt (J := iX12_areBooks) (av := [gi se]) (a := 775) (st := []) dX12_sound_10 lkX12_434 kX12_areBooks vX12_areBooks (gFit_m (by decide)) hM.1 rfl rfl (Nat.le_of_ble_eq_true rfl) (Nat.zero_le _) (Nat.zero_le _) rfl ?_
    refine m_areBooks hM hS.1 hS.2.1 ?_
    show gX l E _ 13 [some (ga 775), some (gi ba), some (gi se), some (gi i), none, none, none, none, none] [gi (b2i (inR se 0 (gshl 1 (S.1.length : Int) - 1)))] (K, R, V) _ _
    refine gX_ifne (tgt := 20) dX12_sound_13 (by decide) (fun m2 => ?_) (fun m2 => ?_)
    · have m2 := inR_1 m2
      have hr1 : 0 ≤ ba ∧ ba < S.1.length := ⟨by omega, by omega⟩
      have hk1 := (hS.2.2.2.1 ba hr1.1 hr1.2).1.tx
      rw [show (gbq S ba).1 = gbX S ba from rfl] at hk1
      have hq40 := hk1.2.1
      have hss : 0 ≤ se ∧ se < ((2 ^ S.1.length : Nat) : Int) := ⟨by omega, by omega⟩
      have heq := hgq hr1 hss
      refine gX_aloadn dX12_sound_20 rfl ?_
      refine gX_iloadn dX12_sound_21 rfl ?_
      refine gX_iloadn dX12_sound_22 rfl ?_
      refine gX_virt (J := iX12_findGroups) (av := [gi ba, gi se]) (a := 775) (st := []) dX12_sound_23 lkX12_446 kX12_findGroups vX12_findGroups (gFit_m (by decide)) hM.1 rfl rfl (Nat.le_of_ble_eq_true rfl) (Nat.zero_le _) (Nat.zero_le _) rfl ?_
      refine m_findGroups hM hS hr1 (fun V1 hg1 hl1 hf1 => ?_)
      show gX l E _ 26 [some (ga 775), some (gi ba), some (gi se), some (gi i), none, none, none, none, none] [] (K, R, V1) _ _
      obtain ⟨gr, egr⟩ : ∃ gr, gr = rgL S ba se := ⟨_, rfl⟩
      rw [← egr] at hg1 hl1
      refine gX_iconst dX12_sound_26 ⟨by decide, by decide⟩ ?_
      refine gX_istore dX12_sound_27 (show (4 : Nat) < 9 from by decide) (ls2 := [some (ga 775), some (gi ba), some (gi se), some (gi i), some (gi 0), none, none, none, none]) rfl ?_
      refine gX_iconst dX12_sound_29 ⟨by decide, by decide⟩ ?_
      refine gX_istore dX12_sound_30 (show (5 : Nat) < 9 from by decide) (ls2 := [some (ga 775), some (gi ba), some (gi se), some (gi i), some (gi 0), some (gi (-1)), none, none, none]) rfl ?_
      refine gX_iconst dX12_sound_32 ⟨by decide, by decide⟩ ?_
      refine gX_istore dX12_sound_33 (show (6 : Nat) < 9 from by decide) (ls2 := [some (ga 775), some (gi ba), some (gi se), some (gi i), some (gi 0), some (gi (-1)), some (gi 0), none, none]) rfl ?_
      have la : ∀ (jj : Nat) (a : Int) (n : Int) (f : Int) (j7 : Option gV) (j8 : Option gV) (o1 : List Int) (bc bs : Nat), (gr.length : Int) - a < (jj : Int) → 0 ≤ a → a ≤ (gr.length : Int) → n = o1.length → f = lat o1 i → o1.length ≤ a → (Q (some (gi (lni (sdF gr (gr.length - a.toNat) a o1) i))) (K, R, V1)) → gX l E (gFm E (d + 6) iX12_sound Q) 35 [some (ga 775), some (gi ba), some (gi se), some (gi i), some (gi n), some (gi f), some (gi a), j7, j8] [] (K, R, V1) bc bs := by
        intro jj
        induction jj with
        | zero =>
          intro a n f j7 j8 o1 bc bs hj q0 q1 q2 q3 q4 hq2
          exfalso; omega
        | succ jj ih =>
          intro a n f j7 j8 o1 bc bs hj q0 q1 q2 q3 q4 hq2
          refine gX_iload dX12_sound_35 rfl ?_
          refine gX_aloadn dX12_sound_37 rfl ?_
          refine gX_gI 62 dX12_sound_38 fdX12_440 rfl (Or.inl rfl) hM.1 ?_
          rw [hg1.1]
          refine gX_icmpge (tgt := 143) dX12_sound_41 (by decide) (fun a1 => ?_) (fun a1 => ?_)
          · refine gX_iloadn dX12_sound_143 rfl ?_
            refine gX_iconst dX12_sound_144 ⟨by decide, by decide⟩ ?_
            refine gX_icmpne (tgt := 153) dX12_sound_145 (by decide) (fun a2 => ?_) (fun a2 => ?_)
            · refine gX_iload dX12_sound_153 rfl ?_
              refine gX_iret dX12_sound_155 (Or.inl rfl) ?_
              have ei : gr.length - a.toNat = 0 := by omega
              rw [ei] at hq2
              have ez : lni (sdF gr 0 a o1) i = f := by
                show lni o1 i = _
                unfold lni
                rw [if_neg (by omega)]; exact q3.symm
              rw [ez] at hq2
              exact hq2
            · refine gX_iload dX12_sound_148 rfl ?_
              refine gX_goto (tgt := 155) dX12_sound_150 (by decide) ?_
              refine gX_iret dX12_sound_155 (Or.inl rfl) ?_
              have ei : gr.length - a.toNat = 0 := by omega
              rw [ei] at hq2
              have ez : lni (sdF gr 0 a o1) i = n := by
                show lni o1 i = _
                unfold lni
                rw [if_pos (by omega)]; omega
              rw [ez] at hq2
              exact hq2
          · refine gX_iconst dX12_sound_44 ⟨by decide, by decide⟩ ?_
            refine gX_istore dX12_sound_45 (show (7 : Nat) < 9 from by decide) (ls2 := [some (ga 775), some (gi ba), some (gi se), some (gi i), some (gi n), some (gi f), some (gi a), some (gi 0), j8]) rfl ?_
            refine gX_iconst dX12_sound_47 ⟨by decide, by decide⟩ ?_
            refine gX_istore dX12_sound_48 (show (8 : Nat) < 9 from by decide) (ls2 := [some (ga 775), some (gi ba), some (gi se), some (gi i), some (gi n), some (gi f), some (gi a), some (gi 0), some (gi 0)]) rfl ?_
            have lb : ∀ (jj : Nat) (b : Int) (t : Int) (bc bs : Nat), (gr.length : Int) - b < (jj : Int) → 0 ≤ b → b ≤ (gr.length : Int) → (t = 0 ∨ t = 1) → (∀ t2 b2 bc bs, t2 = (if t = 1 then 1 else b2i (!snd' gr (lat gr a) (gr.length - b.toNat) b)) → gX l E (gFm E (d + 6) iX12_sound Q) 97 [some (ga 775), some (gi ba), some (gi se), some (gi i), some (gi n), some (gi f), some (gi a), some (gi t2), b2] [] (K, R, V1) bc bs) → gX l E (gFm E (d + 6) iX12_sound Q) 50 [some (ga 775), some (gi ba), some (gi se), some (gi i), some (gi n), some (gi f), some (gi a), some (gi t), some (gi b)] [] (K, R, V1) bc bs := by
              intro jj
              induction jj with
              | zero =>
                intro b t bc bs hj b0 b1 b2 hk2
                exfalso; omega
              | succ jj ih =>
                intro b t bc bs hj b0 b1 b2 hk2
                refine gX_iload dX12_sound_50 rfl ?_
                refine gX_aloadn dX12_sound_52 rfl ?_
                refine gX_gI 62 dX12_sound_53 fdX12_440 rfl (Or.inl rfl) hM.1 ?_
                rw [hg1.1]
                refine gX_icmpge (tgt := 97) dX12_sound_56 (by decide) (fun b1 => ?_) (fun b1 => ?_)
                · have ei : gr.length - b.toNat = 0 := by omega
                  rw [ei] at hk2
                  refine hk2 t _ _ _ ?_
                  rcases b2 with e | e <;> rw [e] <;> rfl
                · refine gX_iload dX12_sound_59 rfl ?_
                  refine gX_ifne (tgt := 84) dX12_sound_61 (by decide) (fun b2 => ?_) (fun b2 => ?_)
                  · refine gX_iconst dX12_sound_84 ⟨by decide, by decide⟩ ?_
                    refine gX_goto (tgt := 89) dX12_sound_85 (by decide) ?_
                    refine gX_istore dX12_sound_89 (show (7 : Nat) < 9 from by decide) (ls2 := [some (ga 775), some (gi ba), some (gi se), some (gi i), some (gi n), some (gi f), some (gi a), some (gi 1), some (gi b)]) rfl ?_
                    refine gX_iinc dX12_sound_91 rfl (show (8 : Nat) < 9 from by decide) ⟨by omega, by omega⟩ (ls2 := [some (ga 775), some (gi ba), some (gi se), some (gi i), some (gi n), some (gi f), some (gi a), some (gi 1), some (gi (b + 1))]) rfl ?_
                    refine gX_goto (tgt := 50) dX12_sound_94 (by decide) ?_
                    have ek : gr.length - b.toNat = (gr.length - (b + 1).toNat) + 1 := by omega
                    have e1 : snd' gr (lat gr a) (gr.length - b.toNat) b = if cla (lat gr a) (lat gr b) = true then false else snd' gr (lat gr a) (gr.length - (b + 1).toNat) (b + 1) := by rw [ek]; rfl
                    refine ih (b + 1) _ _ _ (by omega) (by omega) (by omega) (Or.inr rfl) (fun t2 b2 bc bs ht2 => hk2 t2 b2 bc bs ?_)
                    rw [ht2, if_pos rfl]
                    by_cases et : t = 1
                    · rw [if_pos et]
                    · rw [if_neg et, e1, if_pos (b2i_1 (by first | assumption | (exfalso; omega)))]; rfl
                  · refine gX_aloadn dX12_sound_64 rfl ?_
                    refine gX_gR 61 dX12_sound_65 fdX12_138 rfl rfl hM.1 (mR61 hM) ?_
                    refine gX_iload dX12_sound_68 rfl ?_
                    refine gX_iald dX12_sound_70 (mA61 hM) (by omega) (by omega) ?_
                    rw [hg1.2 a (by omega) (by omega)]
                    refine gX_aloadn dX12_sound_71 rfl ?_
                    refine gX_gR 61 dX12_sound_72 fdX12_138 rfl rfl hM.1 (mR61 hM) ?_
                    refine gX_iload dX12_sound_75 rfl ?_
                    refine gX_iald dX12_sound_77 (mA61 hM) (by omega) (by omega) ?_
                    rw [hg1.2 b (by omega) (by omega)]
                    refine gX_stat (J := iX12_areClashing) (av := [gi (lat gr a), gi (lat gr b)]) (st := []) dX12_sound_78 lkX12_449 kX12_areClashing sX12_areClashing (gFit_m (by decide)) rfl (Nat.le_of_ble_eq_true rfl) (Nat.zero_le _) (Nat.zero_le _) rfl ?_
                    refine m_clashing ?_
                    show gX l E _ 81 [some (ga 775), some (gi ba), some (gi se), some (gi i), some (gi n), some (gi f), some (gi a), some (gi t), some (gi b)] [gi (b2i (cla (lat gr a) (lat gr b)))] (K, R, V1) _ _
                    refine gX_ifeq (tgt := 88) dX12_sound_81 (by decide) (fun b3 => ?_) (fun b3 => ?_)
                    · refine gX_iconst dX12_sound_88 ⟨by decide, by decide⟩ ?_
                      refine gX_istore dX12_sound_89 (show (7 : Nat) < 9 from by decide) (ls2 := [some (ga 775), some (gi ba), some (gi se), some (gi i), some (gi n), some (gi f), some (gi a), some (gi 0), some (gi b)]) rfl ?_
                      refine gX_iinc dX12_sound_91 rfl (show (8 : Nat) < 9 from by decide) ⟨by omega, by omega⟩ (ls2 := [some (ga 775), some (gi ba), some (gi se), some (gi i), some (gi n), some (gi f), some (gi a), some (gi 0), some (gi (b + 1))]) rfl ?_
                      refine gX_goto (tgt := 50) dX12_sound_94 (by decide) ?_
                      have ek : gr.length - b.toNat = (gr.length - (b + 1).toNat) + 1 := by omega
                      have e1 : snd' gr (lat gr a) (gr.length - b.toNat) b = if cla (lat gr a) (lat gr b) = true then false else snd' gr (lat gr a) (gr.length - (b + 1).toNat) (b + 1) := by rw [ek]; rfl
                      refine ih (b + 1) _ _ _ (by omega) (by omega) (by omega) (Or.inl rfl) (fun t2 b2 bc bs ht2 => hk2 t2 b2 bc bs ?_)
                      rw [ht2, if_neg (by decide), if_neg (by omega), e1, if_neg (by rw [b2i_0 (b := cla (lat gr a) (lat gr b)) (by assumption)]; decide)]
                    · refine gX_iconst dX12_sound_84 ⟨by decide, by decide⟩ ?_
                      refine gX_goto (tgt := 89) dX12_sound_85 (by decide) ?_
                      refine gX_istore dX12_sound_89 (show (7 : Nat) < 9 from by decide) (ls2 := [some (ga 775), some (gi ba), some (gi se), some (gi i), some (gi n), some (gi f), some (gi a), some (gi 1), some (gi b)]) rfl ?_
                      refine gX_iinc dX12_sound_91 rfl (show (8 : Nat) < 9 from by decide) ⟨by omega, by omega⟩ (ls2 := [some (ga 775), some (gi ba), some (gi se), some (gi i), some (gi n), some (gi f), some (gi a), some (gi 1), some (gi (b + 1))]) rfl ?_
                      refine gX_goto (tgt := 50) dX12_sound_94 (by decide) ?_
                      have ek : gr.length - b.toNat = (gr.length - (b + 1).toNat) + 1 := by omega
                      have e1 : snd' gr (lat gr a) (gr.length - b.toNat) b = if cla (lat gr a) (lat gr b) = true then false else snd' gr (lat gr a) (gr.length - (b + 1).toNat) (b + 1) := by rw [ek]; rfl
                      refine ih (b + 1) _ _ _ (by omega) (by omega) (by omega) (Or.inr rfl) (fun t2 b2 bc bs ht2 => hk2 t2 b2 bc bs ?_)
                      rw [ht2, if_pos rfl]
                      by_cases et : t = 1
                      · rw [if_pos et]
                      · rw [if_neg et, e1, if_pos (b2i_1 (by first | assumption | (exfalso; omega)))]; rfl
            refine lb (gr.length + 1) 0 0 _ _ (by omega) (by omega) (by omega) (Or.inl rfl) (fun t2 b2 bc bs ht2 => ?_)
            rw [if_neg (by decide), show gr.length - (0 : Int).toNat = gr.length by omega] at ht2
            refine gX_iload dX12_sound_97 rfl ?_
            refine gX_ifne (tgt := 118) dX12_sound_99 (by decide) (fun v1 => ?_) (fun v1 => ?_)
            · refine gX_iload dX12_sound_118 rfl ?_
              refine gX_istore dX12_sound_120 (show (5 : Nat) < 9 from by decide) (ls2 := [some (ga 775), some (gi ba), some (gi se), some (gi i), some (gi n), some (gi f), some (gi a), some (gi t2), b2]) rfl ?_
              refine gX_iload dX12_sound_122 rfl ?_
              refine gX_iload dX12_sound_124 rfl ?_
              refine gX_ifeq (tgt := 133) dX12_sound_126 (by decide) (fun v2 => ?_) (fun v2 => ?_)
              · refine gX_iconst dX12_sound_133 ⟨by decide, by decide⟩ ?_
                refine gX_iadd dX12_sound_134 ⟨by omega, by omega⟩ ?_
                refine gX_istore dX12_sound_135 (show (4 : Nat) < 9 from by decide) (ls2 := [some (ga 775), some (gi ba), some (gi se), some (gi i), some (gi (n + 1)), some (gi f), some (gi a), some (gi t2), b2]) rfl ?_
                refine gX_iinc dX12_sound_137 rfl (show (6 : Nat) < 9 from by decide) ⟨by omega, by omega⟩ (ls2 := [some (ga 775), some (gi ba), some (gi se), some (gi i), some (gi (n + 1)), some (gi f), some (gi (a + 1)), some (gi t2), b2]) rfl ?_
                refine gX_goto (tgt := 35) dX12_sound_140 (by decide) ?_
                first
                | (exfalso; omega)
                | (have ek : gr.length - a.toNat = (gr.length - (a + 1).toNat) + 1 := by omega
                   have hsn : snd' gr (lat gr a) gr.length 0 = true := by
                     cases hz : snd' gr (lat gr a) gr.length 0 with
                     | true => rfl
                     | false => rw [hz] at ht2; exact absurd ht2 (by intro z; have : t2 = 1 := z; omega)
                   have e1 : sdF gr (gr.length - a.toNat) a o1 = sdF gr (gr.length - (a + 1).toNat) (a + 1) (o1 ++ [lat gr a]) := by
                     rw [ek]
                     show sdF gr _ _ (if _ then _ else _) = _
                     rw [if_pos hsn, show ladd 160 o1 (lat gr a) = o1 ++ [lat gr a] from if_pos (by omega)]
                   rw [e1] at hq2
                   have e2 : lat (o1 ++ [lat gr a]) i = lat o1 i := lat_app_x (by omega)
                   exact ih (a + 1) _ _ _ _ (o1 ++ [lat gr a]) _ _ (by omega) (by omega) (by omega) (by rw [List.length_append]; show n + 1 = ((o1.length + 1 : Nat) : Int); omega) (by rw [e2]; exact q3) (by rw [List.length_append]; show ((o1.length + 1 : Nat) : Int) ≤ a + 1; omega) hq2
                   )
              · refine gX_iconst dX12_sound_129 ⟨by decide, by decide⟩ ?_
                refine gX_goto (tgt := 134) dX12_sound_130 (by decide) ?_
                refine gX_iadd dX12_sound_134 ⟨by omega, by omega⟩ ?_
                refine gX_istore dX12_sound_135 (show (4 : Nat) < 9 from by decide) (ls2 := [some (ga 775), some (gi ba), some (gi se), some (gi i), some (gi (n + 0)), some (gi f), some (gi a), some (gi t2), b2]) rfl ?_
                refine gX_iinc dX12_sound_137 rfl (show (6 : Nat) < 9 from by decide) ⟨by omega, by omega⟩ (ls2 := [some (ga 775), some (gi ba), some (gi se), some (gi i), some (gi (n + 0)), some (gi f), some (gi (a + 1)), some (gi t2), b2]) rfl ?_
                refine gX_goto (tgt := 35) dX12_sound_140 (by decide) ?_
                first
                | (exfalso; omega)
                | (have ek : gr.length - a.toNat = (gr.length - (a + 1).toNat) + 1 := by omega
                   have hsn : snd' gr (lat gr a) gr.length 0 = false := by
                     cases hz : snd' gr (lat gr a) gr.length 0 with
                     | false => rfl
                     | true => rw [hz] at ht2; exact absurd ht2 (by intro z; have : t2 = 0 := z; omega)
                   have e1 : sdF gr (gr.length - a.toNat) a o1 = sdF gr (gr.length - (a + 1).toNat) (a + 1) o1 := by
                     rw [ek]
                     show sdF gr _ _ (if _ then _ else _) = _
                     rw [if_neg (by rw [hsn]; decide)]
                   rw [e1] at hq2
                   exact ih (a + 1) _ _ _ _ o1 _ _ (by omega) (by omega) (by omega) (by omega) (by omega) (by omega) hq2
                   )
            · refine gX_iload dX12_sound_102 rfl ?_
              refine gX_iloadn dX12_sound_104 rfl ?_
              refine gX_icmpne (tgt := 118) dX12_sound_105 (by decide) (fun v3 => ?_) (fun v3 => ?_)
              · refine gX_iload dX12_sound_118 rfl ?_
                refine gX_istore dX12_sound_120 (show (5 : Nat) < 9 from by decide) (ls2 := [some (ga 775), some (gi ba), some (gi se), some (gi i), some (gi n), some (gi f), some (gi a), some (gi t2), b2]) rfl ?_
                refine gX_iload dX12_sound_122 rfl ?_
                refine gX_iload dX12_sound_124 rfl ?_
                refine gX_ifeq (tgt := 133) dX12_sound_126 (by decide) (fun v4 => ?_) (fun v4 => ?_)
                · refine gX_iconst dX12_sound_133 ⟨by decide, by decide⟩ ?_
                  refine gX_iadd dX12_sound_134 ⟨by omega, by omega⟩ ?_
                  refine gX_istore dX12_sound_135 (show (4 : Nat) < 9 from by decide) (ls2 := [some (ga 775), some (gi ba), some (gi se), some (gi i), some (gi (n + 1)), some (gi f), some (gi a), some (gi t2), b2]) rfl ?_
                  refine gX_iinc dX12_sound_137 rfl (show (6 : Nat) < 9 from by decide) ⟨by omega, by omega⟩ (ls2 := [some (ga 775), some (gi ba), some (gi se), some (gi i), some (gi (n + 1)), some (gi f), some (gi (a + 1)), some (gi t2), b2]) rfl ?_
                  refine gX_goto (tgt := 35) dX12_sound_140 (by decide) ?_
                  first
                  | (exfalso; omega)
                  | (have ek : gr.length - a.toNat = (gr.length - (a + 1).toNat) + 1 := by omega
                     have hsn : snd' gr (lat gr a) gr.length 0 = true := by
                       cases hz : snd' gr (lat gr a) gr.length 0 with
                       | true => rfl
                       | false => rw [hz] at ht2; exact absurd ht2 (by intro z; have : t2 = 1 := z; omega)
                     have e1 : sdF gr (gr.length - a.toNat) a o1 = sdF gr (gr.length - (a + 1).toNat) (a + 1) (o1 ++ [lat gr a]) := by
                       rw [ek]
                       show sdF gr _ _ (if _ then _ else _) = _
                       rw [if_pos hsn, show ladd 160 o1 (lat gr a) = o1 ++ [lat gr a] from if_pos (by omega)]
                     rw [e1] at hq2
                     have e2 : lat (o1 ++ [lat gr a]) i = lat o1 i := lat_app_x (by omega)
                     exact ih (a + 1) _ _ _ _ (o1 ++ [lat gr a]) _ _ (by omega) (by omega) (by omega) (by rw [List.length_append]; show n + 1 = ((o1.length + 1 : Nat) : Int); omega) (by rw [e2]; exact q3) (by rw [List.length_append]; show ((o1.length + 1 : Nat) : Int) ≤ a + 1; omega) hq2
                     )
                · refine gX_iconst dX12_sound_129 ⟨by decide, by decide⟩ ?_
                  refine gX_goto (tgt := 134) dX12_sound_130 (by decide) ?_
                  refine gX_iadd dX12_sound_134 ⟨by omega, by omega⟩ ?_
                  refine gX_istore dX12_sound_135 (show (4 : Nat) < 9 from by decide) (ls2 := [some (ga 775), some (gi ba), some (gi se), some (gi i), some (gi (n + 0)), some (gi f), some (gi a), some (gi t2), b2]) rfl ?_
                  refine gX_iinc dX12_sound_137 rfl (show (6 : Nat) < 9 from by decide) ⟨by omega, by omega⟩ (ls2 := [some (ga 775), some (gi ba), some (gi se), some (gi i), some (gi (n + 0)), some (gi f), some (gi (a + 1)), some (gi t2), b2]) rfl ?_
                  refine gX_goto (tgt := 35) dX12_sound_140 (by decide) ?_
                  first
                  | (exfalso; omega)
                  | (have ek : gr.length - a.toNat = (gr.length - (a + 1).toNat) + 1 := by omega
                     have hsn : snd' gr (lat gr a) gr.length 0 = false := by
                       cases hz : snd' gr (lat gr a) gr.length 0 with
                       | false => rfl
                       | true => rw [hz] at ht2; exact absurd ht2 (by intro z; have : t2 = 0 := z; omega)
                     have e1 : sdF gr (gr.length - a.toNat) a o1 = sdF gr (gr.length - (a + 1).toNat) (a + 1) o1 := by
                       rw [ek]
                       show sdF gr _ _ (if _ then _ else _) = _
                       rw [if_neg (by rw [hsn]; decide)]
                     rw [e1] at hq2
                     exact ih (a + 1) _ _ _ _ o1 _ _ (by omega) (by omega) (by omega) (by omega) (by omega) (by omega) hq2
                     )
              · refine gX_aloadn dX12_sound_108 rfl ?_
                refine gX_gR 61 dX12_sound_109 fdX12_138 rfl rfl hM.1 (mR61 hM) ?_
                refine gX_iload dX12_sound_112 rfl ?_
                refine gX_iald dX12_sound_114 (mA61 hM) (by omega) (by omega) ?_
                rw [hg1.2 a (by omega) (by omega)]
                refine gX_goto (tgt := 120) dX12_sound_115 (by decide) ?_
                refine gX_istore dX12_sound_120 (show (5 : Nat) < 9 from by decide) (ls2 := [some (ga 775), some (gi ba), some (gi se), some (gi i), some (gi n), some (gi (lat gr a)), some (gi a), some (gi t2), b2]) rfl ?_
                refine gX_iload dX12_sound_122 rfl ?_
                refine gX_iload dX12_sound_124 rfl ?_
                refine gX_ifeq (tgt := 133) dX12_sound_126 (by decide) (fun v5 => ?_) (fun v5 => ?_)
                · refine gX_iconst dX12_sound_133 ⟨by decide, by decide⟩ ?_
                  refine gX_iadd dX12_sound_134 ⟨by omega, by omega⟩ ?_
                  refine gX_istore dX12_sound_135 (show (4 : Nat) < 9 from by decide) (ls2 := [some (ga 775), some (gi ba), some (gi se), some (gi i), some (gi (n + 1)), some (gi (lat gr a)), some (gi a), some (gi t2), b2]) rfl ?_
                  refine gX_iinc dX12_sound_137 rfl (show (6 : Nat) < 9 from by decide) ⟨by omega, by omega⟩ (ls2 := [some (ga 775), some (gi ba), some (gi se), some (gi i), some (gi (n + 1)), some (gi (lat gr a)), some (gi (a + 1)), some (gi t2), b2]) rfl ?_
                  refine gX_goto (tgt := 35) dX12_sound_140 (by decide) ?_
                  first
                  | (exfalso; omega)
                  | (have ek : gr.length - a.toNat = (gr.length - (a + 1).toNat) + 1 := by omega
                     have hsn : snd' gr (lat gr a) gr.length 0 = true := by
                       cases hz : snd' gr (lat gr a) gr.length 0 with
                       | true => rfl
                       | false => rw [hz] at ht2; exact absurd ht2 (by intro z; have : t2 = 1 := z; omega)
                     have e1 : sdF gr (gr.length - a.toNat) a o1 = sdF gr (gr.length - (a + 1).toNat) (a + 1) (o1 ++ [lat gr a]) := by
                       rw [ek]
                       show sdF gr _ _ (if _ then _ else _) = _
                       rw [if_pos hsn, show ladd 160 o1 (lat gr a) = o1 ++ [lat gr a] from if_pos (by omega)]
                     rw [e1] at hq2
                     have e2 : lat (o1 ++ [lat gr a]) i = lat gr a := lat_app_s (by omega)
                     exact ih (a + 1) _ _ _ _ (o1 ++ [lat gr a]) _ _ (by omega) (by omega) (by omega) (by rw [List.length_append]; show n + 1 = ((o1.length + 1 : Nat) : Int); omega) (by rw [e2]) (by rw [List.length_append]; show ((o1.length + 1 : Nat) : Int) ≤ a + 1; omega) hq2
                     )
                · refine gX_iconst dX12_sound_129 ⟨by decide, by decide⟩ ?_
                  refine gX_goto (tgt := 134) dX12_sound_130 (by decide) ?_
                  refine gX_iadd dX12_sound_134 ⟨by omega, by omega⟩ ?_
                  refine gX_istore dX12_sound_135 (show (4 : Nat) < 9 from by decide) (ls2 := [some (ga 775), some (gi ba), some (gi se), some (gi i), some (gi (n + 0)), some (gi (lat gr a)), some (gi a), some (gi t2), b2]) rfl ?_
                  refine gX_iinc dX12_sound_137 rfl (show (6 : Nat) < 9 from by decide) ⟨by omega, by omega⟩ (ls2 := [some (ga 775), some (gi ba), some (gi se), some (gi i), some (gi (n + 0)), some (gi (lat gr a)), some (gi (a + 1)), some (gi t2), b2]) rfl ?_
                  refine gX_goto (tgt := 35) dX12_sound_140 (by decide) ?_
                  first
                  | (exfalso; omega)
                  | (have ek : gr.length - a.toNat = (gr.length - (a + 1).toNat) + 1 := by omega
                     have hsn : snd' gr (lat gr a) gr.length 0 = false := by
                       cases hz : snd' gr (lat gr a) gr.length 0 with
                       | false => rfl
                       | true => rw [hz] at ht2; exact absurd ht2 (by intro z; have : t2 = 0 := z; omega)
                     have e1 : sdF gr (gr.length - a.toNat) a o1 = sdF gr (gr.length - (a + 1).toNat) (a + 1) o1 := by
                       rw [ek]
                       show sdF gr _ _ (if _ then _ else _) = _
                       rw [if_neg (by rw [hsn]; decide)]
                     rw [e1] at hq2
                     exact ih (a + 1) _ _ _ _ o1 _ _ (by omega) (by omega) (by omega) (by omega) (by omega) (by omega) hq2
                     )
      have ea : aSound S ba se i = lni (sdF gr gr.length 0 []) i := by
        unfold aSound
        rw [if_pos ⟨hr1, (isS_iff hn1 hse).mpr hss⟩, ← heq, ← egr]
      have hQ2 := hQ V1 hf1.q
      rw [ea] at hQ2
      exact la (gr.length + 1) 0 0 (-1) none none [] _ _ (by omega) (by omega) (by omega) rfl (by exact (lat_out (by show ¬ (0 ≤ i ∧ i < ((0 : Nat) : Int)); omega)).symm) (by exact Int.le_refl _) hQ2
    · have m2 := inR_0 m2
      refine gX_sipush dX12_sound_16 (by decide) ⟨by decide, by decide⟩ ?_
      refine gX_iret dX12_sound_19 (Or.inl rfl) ?_
      have ea : aSound S ba se i = -1001 := by
        unfold aSound
        rw [if_neg (by rintro ⟨z1, z2⟩; have z3 := (isS_iff hn1 hse).mp z2; omega)]
      rw [ea] at hQ
      exact hQ V qFr.rf
end MD7
