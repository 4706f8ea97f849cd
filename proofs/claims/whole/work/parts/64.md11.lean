/-! The reference: what slipped in. Written by wip/whole/tools/mk_md11.py. -/
theorem gor_00 {x : Int} (h : in32 x) : gor x 0 = x := by
  unfold gor
  have e : Int32.ofInt x ||| Int32.ofInt 0 = Int32.ofInt x := by
    apply Int32.toBitVec_inj.mp
    rw [Int32.toBitVec_or]
    exact BitVec.or_zero
  rw [e, i32_toInt h]
theorem gor_in (x y : Int) : in32 (gor x y) := in32_toInt _
def pmF (xs ys pa : List Int) (f : Int) : Nat → Int → Bool
  | 0, _ => true
  | n + 1, k => if ¬ (f + k) ∈ pa ∧ lat ys (f + k) = lat xs k then pmF xs ys pa f n (k + 1) else false
def pM (xs ys pa : List Int) (f : Int) : Bool := decide (0 ≤ f ∧ f + xs.length ≤ ys.length) && pmF xs ys pa f xs.length 0
def hsM (pa ys : List Int) (q : gG) : Bool := (decide (0 ≤ lat pa q.2.2.1) && pM q.2.2.2.2.2 ys pa (lat pa q.2.2.1 - q.2.2.2.2.2.length)) || (decide (0 ≤ lat pa q.2.2.2.1) && pM q.2.2.2.2.2 ys pa (lat pa q.2.2.2.1 + 1))
def slpM (gs : List gG) (pa ys : List Int) : Nat → Int → Int → Int
  | 0, _, x => x
  | j + 1, g, x => slpM gs pa ys j (g + 1) (if (gq gs g).2.1 < 0 ∧ hsM pa ys (gq gs g) = true then gor x (gshl 1 g) else x)
theorem pmF_puA {xs ys so pa : List Int} {f : Int} (hso : srcIs so ys.length pa) (hf : 0 ≤ f ∧ f + xs.length ≤ ys.length) : ∀ (n : Nat) (k : Int), 0 ≤ k → k + n = xs.length → pmF xs ys pa f n k = puA xs ys so f n k
  | 0, _, _, _ => rfl
  | n + 1, k, h0, h1 => by
    have hq := hso.2 (f + k).toNat (by omega)
    rw [Int.toNat_of_nonneg (by omega)] at hq
    have ih := pmF_puA hso hf n (k + 1) (by omega) (by omega)
    have e1 : pmF xs ys pa f (n + 1) k = if ¬ (f + k) ∈ pa ∧ lat ys (f + k) = lat xs k then pmF xs ys pa f n (k + 1) else false := rfl
    have e2 : puA xs ys so f (n + 1) k = if lhas ys (f + k) = 1 ∧ lat ys (f + k) = lat xs k ∧ lat so (f + k) = -1 then puA xs ys so f n (k + 1) else false := rfl
    have hl : lhas ys (f + k) = 1 := if_pos (by omega)
    rw [e1, e2, ih]
    by_cases c : ¬ (f + k) ∈ pa ∧ lat ys (f + k) = lat xs k
    · rw [if_pos c, if_pos ⟨hl, c.2, hq.mpr c.1⟩]
    · rw [if_neg c, if_neg (fun z => c ⟨hq.mp z.2.2, z.2.1⟩)]
theorem puA_oob {xs ys so : List Int} {f : Int} : ∀ (n : Nat) (k : Int), 0 ≤ k → k + n = xs.length → (∃ j : Int, k ≤ j ∧ j < xs.length ∧ ¬ (0 ≤ f + j ∧ f + j < ys.length)) → puA xs ys so f n k = false
  | 0, k, _, _, ⟨j, j0, j1, _⟩ => by omega
  | n + 1, k, h0, h1, ⟨j, j0, j1, j2⟩ => by
    have e2 : puA xs ys so f (n + 1) k = if lhas ys (f + k) = 1 ∧ lat ys (f + k) = lat xs k ∧ lat so (f + k) = -1 then puA xs ys so f n (k + 1) else false := rfl
    rw [e2]
    by_cases c : lhas ys (f + k) = 1 ∧ lat ys (f + k) = lat xs k ∧ lat so (f + k) = -1
    · rw [if_pos c]
      refine puA_oob n (k + 1) (by omega) (by omega) ⟨j, ?_, j1, j2⟩
      by_cases e : j = k
      · subst e
        have z : lhas ys (f + j) = 0 := if_neg j2
        omega
      · omega
    · rw [if_neg c]
theorem pM_puA {xs ys so pa : List Int} {f : Int} (hso : srcIs so ys.length pa) (hl : 1 ≤ xs.length) : pM xs ys pa f = puA xs ys so f xs.length 0 := by
  unfold pM
  by_cases c : 0 ≤ f ∧ f + xs.length ≤ ys.length
  · rw [decide_eq_true c, Bool.true_and, pmF_puA hso c _ 0 (by omega) (by omega)]
  · rw [decide_eq_false c, Bool.false_and]
    refine (puA_oob _ 0 (by omega) (by omega) ?_).symm
    by_cases c2 : 0 ≤ f
    · exact ⟨xs.length - 1, by omega, by omega, by omega⟩
    · exact ⟨0, by omega, by omega, by omega⟩
theorem slpM_F {gs : List gG} {pa ys so : List Int} (hlv : ∀ q ∈ gs, lvQ q) (hho : ∀ q ∈ gs, -1 ≤ q.2.1) (hso : srcIs so ys.length pa) (hr : rwW gs) (hp : ∀ i : Int, -1 ≤ lat pa i) : ∀ (j : Nat) (g x : Int), 0 ≤ g → g + j = gs.length → slpM gs pa ys j g x = slpF gs pa ys so j g x
  | 0, _, _, _, _ => rfl
  | j + 1, g, x, h0, h1 => by
    have hm := gqM (gs := gs) h0 (by omega)
    have e1 : slpM gs pa ys (j + 1) g x = slpM gs pa ys j (g + 1) (if (gq gs g).2.1 < 0 ∧ hsM pa ys (gq gs g) = true then gor x (gshl 1 g) else x) := rfl
    have e2 : slpF gs pa ys so (j + 1) g x = slpF gs pa ys so j (g + 1) (if onT (gq gs g) = 1 ∧ hsl pa ys so (gq gs g) = true then gor x (gshl 1 g) else x) := rfl
    rw [e1, e2, slpM_F hlv hho hso hr hp j (g + 1) _ (by omega) (by omega)]
    have ho : onT (gq gs g) = 1 ↔ (gq gs g).2.1 < 0 := by
      have h2 := hho _ hm
      have h3 : (gq gs g).2.2.2.2.1 = 0 := hlv _ hm
      unfold onT
      constructor
      · intro z
        have : (gq gs g).2.2.2.2.1 = 0 ∧ (gq gs g).2.1 = -1 := Decidable.byContradiction fun y => by rw [if_neg y] at z; omega
        omega
      · intro z; exact if_pos ⟨h3, by omega⟩
    have hh : hsM pa ys (gq gs g) = hsl pa ys so (gq gs g) := by
      have h4 := hr _ hm
      unfold hsM hsl
      rw [pM_puA hso h4, pM_puA hso h4]
      have d1 : decide (0 ≤ lat pa (gq gs g).2.2.1) = decide (lat pa (gq gs g).2.2.1 ≠ -1) := decide_eq_decide.mpr (by have := hp (gq gs g).2.2.1; omega)
      have d2 : decide (0 ≤ lat pa (gq gs g).2.2.2.1) = decide (lat pa (gq gs g).2.2.2.1 ≠ -1) := decide_eq_decide.mpr (by have := hp (gq gs g).2.2.2.1; omega)
      rw [d1, d2]
    rw [hh]
    by_cases c : onT (gq gs g) = 1 ∧ hsl pa ys so (gq gs g) = true
    · rw [if_pos c, if_pos ⟨ho.mp c.1, c.2⟩]
    · rw [if_neg c, if_neg (fun z => c ⟨ho.mpr z.1, z.2⟩)]
section MD11
variable {l : Launch} {E : gE} {d : Nat} {K : List gK} {R V : Int → Int → Int} {a b i w v g f at' : Int} {Q : gQ} {S : gbS} {tx ys pa : List Int} {gs : List gG} {q : gG}
set_option maxRecDepth 4000 in
theorem m_isPutAt (hM : mdK K R) (ha : 0 ≤ at' ∧ at' < 220) (hb : 0 ≤ b ∧ b ≤ 10) (hg : rgIs V at' q) (hty : txI V b ys) (hpu : ∀ j : Int, 0 ≤ j → j < ys.length → V 815 j = if j ∈ pa then 0 else 1) (hf : -1000 ≤ f ∧ f ≤ 1000) (hQ : Q (some (gi (b2i (pM q.2.2.2.2.2 ys pa f)))) (K, R, V)) : gC l E (d + 1) iX12_isPutAt [ga 775, gi at', gi b, gi f] (K, R, V) Q := by
  refine gC_of kX12_isPutAt (ls := [some (ga 775), some (gi at'), some (gi b), some (gi f), none, none]) rfl (Nat.le_of_ble_eq_true rfl) ?_
  have h8 := hg.2.2.2.1
  have h40 := hty.2.1
  have lp : ∀ (jj : Nat) (k : Int) (t : Int) (bc bs : Nat), (q.2.2.2.2.2.length : Int) - k < (jj : Int) → 0 ≤ k → k ≤ q.2.2.2.2.2.length → (t = 0 ∨ t = 1) → (t = 1 → 0 ≤ f ∧ f + (q.2.2.2.2.2.length : Int) ≤ (ys.length : Int)) → (Q (some (gi (if t = 1 then b2i (pmF q.2.2.2.2.2 ys pa f (q.2.2.2.2.2.length - k.toNat) k) else 0))) (K, R, V)) → gX l E (gFm E (d + 1) iX12_isPutAt Q) 31 [some (ga 775), some (gi at'), some (gi b), some (gi f), some (gi t), some (gi k)] [] (K, R, V) bc bs := by
    intro jj
    induction jj with
    | zero =>
      intro k t bc bs hj r0 r1 hr2 hr3 hq2
      exfalso; omega
    | succ jj ih =>
      intro k t bc bs hj r0 r1 hr2 hr3 hq2
      refine gX_iload dX12_isPutAt_31 rfl ?_
      refine gX_aloadn dX12_isPutAt_33 rfl ?_
      refine gX_gR 8 dX12_isPutAt_34 fdX12_31 rfl rfl hM.1 (mR8 hM) ?_
      refine gX_iloadn dX12_isPutAt_37 rfl ?_
      refine gX_iald dX12_isPutAt_38 (mA8 hM) (by omega) (by omega) ?_
      rw [hg.2.2.1]
      refine gX_icmpge (tgt := 101) dX12_isPutAt_39 (by decide) (fun w1 => ?_) (fun w1 => ?_)
      · refine gX_iload dX12_isPutAt_101 rfl ?_
        refine gX_iret dX12_isPutAt_103 (Or.inr ⟨rfl, by omega⟩) ?_
        rcases hr2 with z | z
        · rw [z, if_neg (by decide)] at hq2
          rw [z]
          exact hq2
        · first
          | (have ei : q.2.2.2.2.2.length - k.toNat = 0 := by omega
             rw [z, if_pos rfl, ei] at hq2
             rw [z]
             exact hq2)
          | (exfalso; omega)
      · refine gX_iload dX12_isPutAt_42 rfl ?_
        refine gX_ifeq (tgt := 101) dX12_isPutAt_44 (by decide) (fun w2 => ?_) (fun w2 => ?_)
        · refine gX_iload dX12_isPutAt_101 rfl ?_
          refine gX_iret dX12_isPutAt_103 (Or.inr ⟨rfl, by omega⟩) ?_
          rcases hr2 with z | z
          · rw [z, if_neg (by decide)] at hq2
            rw [z]
            exact hq2
          · first
            | (have ei : q.2.2.2.2.2.length - k.toNat = 0 := by omega
               rw [z, if_pos rfl, ei] at hq2
               rw [z]
               exact hq2)
            | (exfalso; omega)
        · have hr9 := hr3 (by omega)
          refine gX_aloadn dX12_isPutAt_47 rfl ?_
          refine gX_gR 59 dX12_isPutAt_48 fdX12_132 rfl rfl hM.1 (mR59 hM) ?_
          refine gX_iloadn dX12_isPutAt_51 rfl ?_
          refine gX_iload dX12_isPutAt_52 rfl ?_
          refine gX_iadd dX12_isPutAt_54 ⟨by omega, by omega⟩ ?_
          refine gX_zald dX12_isPutAt_55 (mA59 hM) (by omega) (by omega) ?_
          rw [hpu (f + k) (by omega) (by omega)]
          refine gX_ifeq (tgt := 92) dX12_isPutAt_56 (by decide) (fun w3 => ?_) (fun w3 => ?_)
          · refine gX_iconst dX12_isPutAt_92 ⟨by decide, by decide⟩ ?_
            refine gX_istore dX12_isPutAt_93 (show (4 : Nat) < 6 from by decide) (ls2 := [some (ga 775), some (gi at'), some (gi b), some (gi f), some (gi 0), some (gi k)]) rfl ?_
            refine gX_iinc dX12_isPutAt_95 rfl (show (5 : Nat) < 6 from by decide) ⟨by omega, by omega⟩ (ls2 := [some (ga 775), some (gi at'), some (gi b), some (gi f), some (gi 0), some (gi (k + 1))]) rfl ?_
            refine gX_goto (tgt := 31) dX12_isPutAt_98 (by decide) ?_
            have ht1 : t = 1 := by omega
            have ek : q.2.2.2.2.2.length - k.toNat = (q.2.2.2.2.2.length - (k + 1).toNat) + 1 := by omega
            have e1 : pmF q.2.2.2.2.2 ys pa f (q.2.2.2.2.2.length - k.toNat) k = if ¬ (f + k) ∈ pa ∧ lat ys (f + k) = lat q.2.2.2.2.2 k then pmF q.2.2.2.2.2 ys pa f (q.2.2.2.2.2.length - (k + 1).toNat) (k + 1) else false := by rw [ek]; rfl
            rw [if_pos ht1, e1] at hq2
            have hcond : ¬ (¬ (f + k) ∈ pa ∧ lat ys (f + k) = lat q.2.2.2.2.2 k) := by
              rintro ⟨z1, z2⟩
              have z9 : (if f + k ∈ pa then (0 : Int) else 1) = 1 := if_neg z1
              omega
            rw [if_neg hcond] at hq2
            exact ih (k + 1) _ _ _ (by omega) (by omega) (by omega) (Or.inl rfl) (fun z => by omega) (by rw [if_neg (by decide)]; exact hq2)
          · refine gX_aloadn dX12_isPutAt_59 rfl ?_
            refine gX_gR 2 dX12_isPutAt_60 fdX12_13 rfl rfl hM.1 (mR2 hM) ?_
            refine gX_bipush dX12_isPutAt_63 (by decide) ⟨by decide, by decide⟩ ?_
            refine gX_iloadn dX12_isPutAt_65 rfl ?_
            refine gX_imul dX12_isPutAt_66 ⟨by omega, by omega⟩ ?_
            refine gX_iloadn dX12_isPutAt_67 rfl ?_
            refine gX_iadd dX12_isPutAt_68 ⟨by omega, by omega⟩ ?_
            refine gX_iload dX12_isPutAt_69 rfl ?_
            refine gX_iadd dX12_isPutAt_71 ⟨by omega, by omega⟩ ?_
            refine gX_iald dX12_isPutAt_72 (mA2 hM) (by omega) (by omega) ?_
            rw [show 40 * b + f + k = 40 * b + (f + k) by omega, hty.2.2 (f + k) (by omega) (by omega)]
            refine gX_aloadn dX12_isPutAt_73 rfl ?_
            refine gX_gR 9 dX12_isPutAt_74 fdX12_34 rfl rfl hM.1 (mR9 hM) ?_
            refine gX_bipush dX12_isPutAt_77 (by decide) ⟨by decide, by decide⟩ ?_
            refine gX_iloadn dX12_isPutAt_79 rfl ?_
            refine gX_imul dX12_isPutAt_80 ⟨by omega, by omega⟩ ?_
            refine gX_iload dX12_isPutAt_81 rfl ?_
            refine gX_iadd dX12_isPutAt_83 ⟨by omega, by omega⟩ ?_
            refine gX_iald dX12_isPutAt_84 (mA9 hM) (by omega) (by omega) ?_
            rw [hg.rw (by omega) (by omega)]
            refine gX_icmpne (tgt := 92) dX12_isPutAt_85 (by decide) (fun w4 => ?_) (fun w4 => ?_)
            · refine gX_iconst dX12_isPutAt_92 ⟨by decide, by decide⟩ ?_
              refine gX_istore dX12_isPutAt_93 (show (4 : Nat) < 6 from by decide) (ls2 := [some (ga 775), some (gi at'), some (gi b), some (gi f), some (gi 0), some (gi k)]) rfl ?_
              refine gX_iinc dX12_isPutAt_95 rfl (show (5 : Nat) < 6 from by decide) ⟨by omega, by omega⟩ (ls2 := [some (ga 775), some (gi at'), some (gi b), some (gi f), some (gi 0), some (gi (k + 1))]) rfl ?_
              refine gX_goto (tgt := 31) dX12_isPutAt_98 (by decide) ?_
              have ht1 : t = 1 := by omega
              have ek : q.2.2.2.2.2.length - k.toNat = (q.2.2.2.2.2.length - (k + 1).toNat) + 1 := by omega
              have e1 : pmF q.2.2.2.2.2 ys pa f (q.2.2.2.2.2.length - k.toNat) k = if ¬ (f + k) ∈ pa ∧ lat ys (f + k) = lat q.2.2.2.2.2 k then pmF q.2.2.2.2.2 ys pa f (q.2.2.2.2.2.length - (k + 1).toNat) (k + 1) else false := by rw [ek]; rfl
              rw [if_pos ht1, e1] at hq2
              have hcond : ¬ (¬ (f + k) ∈ pa ∧ lat ys (f + k) = lat q.2.2.2.2.2 k) := by
                rintro ⟨z1, z2⟩
                have z9 : (if f + k ∈ pa then (0 : Int) else 1) = 1 := if_neg z1
                omega
              rw [if_neg hcond] at hq2
              exact ih (k + 1) _ _ _ (by omega) (by omega) (by omega) (Or.inl rfl) (fun z => by omega) (by rw [if_neg (by decide)]; exact hq2)
            · refine gX_iconst dX12_isPutAt_88 ⟨by decide, by decide⟩ ?_
              refine gX_goto (tgt := 93) dX12_isPutAt_89 (by decide) ?_
              refine gX_istore dX12_isPutAt_93 (show (4 : Nat) < 6 from by decide) (ls2 := [some (ga 775), some (gi at'), some (gi b), some (gi f), some (gi 1), some (gi k)]) rfl ?_
              refine gX_iinc dX12_isPutAt_95 rfl (show (5 : Nat) < 6 from by decide) ⟨by omega, by omega⟩ (ls2 := [some (ga 775), some (gi at'), some (gi b), some (gi f), some (gi 1), some (gi (k + 1))]) rfl ?_
              refine gX_goto (tgt := 31) dX12_isPutAt_98 (by decide) ?_
              have ht1 : t = 1 := by omega
              have ek : q.2.2.2.2.2.length - k.toNat = (q.2.2.2.2.2.length - (k + 1).toNat) + 1 := by omega
              have e1 : pmF q.2.2.2.2.2 ys pa f (q.2.2.2.2.2.length - k.toNat) k = if ¬ (f + k) ∈ pa ∧ lat ys (f + k) = lat q.2.2.2.2.2 k then pmF q.2.2.2.2.2 ys pa f (q.2.2.2.2.2.length - (k + 1).toNat) (k + 1) else false := by rw [ek]; rfl
              rw [if_pos ht1, e1] at hq2
              have hmem : ¬ (f + k) ∈ pa := fun z => by have z9 : (if f + k ∈ pa then (0 : Int) else 1) = 0 := if_pos z; omega
              rw [if_pos ⟨hmem, by omega⟩] at hq2
              exact ih (k + 1) _ _ _ (by omega) (by omega) (by omega) (Or.inr rfl) (fun _ => hr3 ht1) (by rw [if_pos rfl]; exact hq2)
  refine gX_iloadn dX12_isPutAt_0 rfl ?_
  refine gX_iflt (tgt := 25) dX12_isPutAt_1 (by decide) (fun m1 => ?_) (fun m1 => ?_)
  · refine gX_iconst dX12_isPutAt_25 ⟨by decide, by decide⟩ ?_
    refine gX_istore dX12_isPutAt_26 (show (4 : Nat) < 6 from by decide) (ls2 := [some (ga 775), some (gi at'), some (gi b), some (gi f), some (gi 0), none]) rfl ?_
    refine gX_iconst dX12_isPutAt_28 ⟨by decide, by decide⟩ ?_
    refine gX_istore dX12_isPutAt_29 (show (5 : Nat) < 6 from by decide) (ls2 := [some (ga 775), some (gi at'), some (gi b), some (gi f), some (gi 0), some (gi 0)]) rfl ?_
    have ep : pM q.2.2.2.2.2 ys pa f = false := by unfold pM; rw [decide_eq_false (by omega), Bool.false_and]
    rw [ep] at hQ
    exact lp (q.2.2.2.2.2.length + 1) 0 0 _ _ (by omega) (by omega) (by omega) (Or.inl rfl) (fun z => by omega) (by rw [if_neg (by decide)]; exact hQ)
  · refine gX_iloadn dX12_isPutAt_4 rfl ?_
    refine gX_aloadn dX12_isPutAt_5 rfl ?_
    refine gX_gR 8 dX12_isPutAt_6 fdX12_31 rfl rfl hM.1 (mR8 hM) ?_
    refine gX_iloadn dX12_isPutAt_9 rfl ?_
    refine gX_iald dX12_isPutAt_10 (mA8 hM) (by omega) (by omega) ?_
    rw [hg.2.2.1]
    refine gX_iadd dX12_isPutAt_11 ⟨by omega, by omega⟩ ?_
    refine gX_aloadn dX12_isPutAt_12 rfl ?_
    refine gX_gR 1 dX12_isPutAt_13 fdX12_7 rfl rfl hM.1 (mR1 hM) ?_
    refine gX_iloadn dX12_isPutAt_16 rfl ?_
    refine gX_iald dX12_isPutAt_17 (mA1 hM) (by omega) (by omega) ?_
    rw [hty.1]
    refine gX_icmpgt (tgt := 25) dX12_isPutAt_18 (by decide) (fun m2 => ?_) (fun m2 => ?_)
    · refine gX_iconst dX12_isPutAt_25 ⟨by decide, by decide⟩ ?_
      refine gX_istore dX12_isPutAt_26 (show (4 : Nat) < 6 from by decide) (ls2 := [some (ga 775), some (gi at'), some (gi b), some (gi f), some (gi 0), none]) rfl ?_
      refine gX_iconst dX12_isPutAt_28 ⟨by decide, by decide⟩ ?_
      refine gX_istore dX12_isPutAt_29 (show (5 : Nat) < 6 from by decide) (ls2 := [some (ga 775), some (gi at'), some (gi b), some (gi f), some (gi 0), some (gi 0)]) rfl ?_
      have ep : pM q.2.2.2.2.2 ys pa f = false := by unfold pM; rw [decide_eq_false (by omega), Bool.false_and]
      rw [ep] at hQ
      exact lp (q.2.2.2.2.2.length + 1) 0 0 _ _ (by omega) (by omega) (by omega) (Or.inl rfl) (fun z => by omega) (by rw [if_neg (by decide)]; exact hQ)
    · refine gX_iconst dX12_isPutAt_21 ⟨by decide, by decide⟩ ?_
      refine gX_goto (tgt := 26) dX12_isPutAt_22 (by decide) ?_
      refine gX_istore dX12_isPutAt_26 (show (4 : Nat) < 6 from by decide) (ls2 := [some (ga 775), some (gi at'), some (gi b), some (gi f), some (gi 1), none]) rfl ?_
      refine gX_iconst dX12_isPutAt_28 ⟨by decide, by decide⟩ ?_
      refine gX_istore dX12_isPutAt_29 (show (5 : Nat) < 6 from by decide) (ls2 := [some (ga 775), some (gi at'), some (gi b), some (gi f), some (gi 1), some (gi 0)]) rfl ?_
      have ep : pM q.2.2.2.2.2 ys pa f = pmF q.2.2.2.2.2 ys pa f q.2.2.2.2.2.length 0 := by unfold pM; rw [decide_eq_true ⟨by omega, by omega⟩, Bool.true_and]
      rw [ep] at hQ
      exact lp (q.2.2.2.2.2.length + 1) 0 1 _ _ (by omega) (by omega) (by omega) (Or.inr rfl) (fun _ => ⟨by omega, by omega⟩) (by rw [if_pos rfl]; exact hQ)
theorem m_firstOfE (hM : mdK K R) (hb : 0 ≤ b ∧ b ≤ 10) (hk : rbIs V b tx gs) (hs : rsIs V b tx gs) (h0 : 0 ≤ g) (h1 : g < gs.length) (ho : spOk tx gs g) (hh : (gq gs g).2.1 = -1) (hQ : Q (some (gi (gq gs g).2.2.1)) (K, R, V)) : gC l E (d + 2) iX12_firstOf [ga 775, gi b, gi (-1), gi (V 782 (20 * b + g))] (K, R, V) Q := by
  have h := m_firstOf (l := l) (E := E) (d := d) (Q := Q) hM hb hk hs h0 h1 ho hQ
  rw [hh] at h
  exact h
theorem m_lemmaSizeE (hM : mdK K R) (hb : 0 ≤ b ∧ b ≤ 10) (hk : rbIs V b tx gs) (hs : rsIs V b tx gs) (h0 : 0 ≤ g) (h1 : g < gs.length) (ho : spOk tx gs g) (hh : (gq gs g).2.1 = -1) (hQ : Q (some (gi (lml (gq gs g)))) (K, R, V)) : gC l E (d + 2) iX12_lemmaSize [ga 775, gi b, gi (-1), gi (V 782 (20 * b + g))] (K, R, V) Q := by
  have h := m_lemmaSize (l := l) (E := E) (d := d) (Q := Q) hM hb hk hs h0 h1 ho hQ
  rw [hh] at h
  exact h
set_option maxRecDepth 4000 in
theorem m_slipped (hM : mdK K R) (hS : mdIs V S) (hO : ∀ b : Int, 0 ≤ b → b < S.1.length → bkOk (gbq S b).1 (gbq S b).2.1) (hN : ¬ ((0 ≤ a ∧ a < S.1.length) ∧ (0 ≤ b ∧ b < S.1.length)) → Q (some (gi (-1001))) (K, R, V)) (hQ : (0 ≤ a ∧ a < S.1.length) → (0 ≤ b ∧ b < S.1.length) → ∀ V', qFr V V' → Q (some (gi (slpM (gbq S a).2.1 (alg (gbX S a) (gbX S b) 0) (gbX S b) (gbq S a).2.1.length 0 0))) (K, R, V')) : gC l E (d + 4) iX12_slipped [ga 775, gi a, gi b] (K, R, V) Q := by
  refine gC_of kX12_slipped (ls := [some (ga 775), some (gi a), some (gi b), none, none, none, none, none, none, none]) rfl (Nat.le_of_ble_eq_true rfl) ?_
  have hn0 := hS.1
  have hn1 := hS.2.1
  refine gX_aloadn dX12_slipped_0 rfl ?_
  refine gX_iloadn dX12_slipped_1 rfl ?_
  refine gX_virt (J := iX12_isBook) (av := [gi a]) (a := 775) (st := []) dX12_slipped_2 lkX12_371 kX12_isBook vX12_isBook (gFit_m (by decide)) hM.1 rfl rfl (Nat.le_of_ble_eq_true rfl) (Nat.zero_le _) (Nat.zero_le _) rfl ?_
  refine m_isBook hM hS.1 hS.2.1 ?_
  show gX l E _ 5 [some (ga 775), some (gi a), some (gi b), none, none, none, none, none, none, none] [gi (b2i (inR a 0 ((S.1.length : Int) - 1)))] (K, R, V) _ _
  refine gX_ifeq (tgt := 16) dX12_slipped_5 (by decide) (fun m1 => ?_) (fun m1 => ?_)
  · have m1 := inR_0 m1
    refine gX_sipush dX12_slipped_16 (by decide) ⟨by decide, by decide⟩ ?_
    refine gX_iret dX12_slipped_19 (Or.inl rfl) ?_
    exact hN (by omega)
  · have m1 := inR_1 m1
    refine gX_aloadn dX12_slipped_8 rfl ?_
    refine gX_iloadn dX12_slipped_9 rfl ?_
    refine gX_virt (J := iX12_isBook) (av := [gi b]) (a := 775) (st := []) dX12_slipped_10 lkX12_371 kX12_isBook vX12_isBook (gFit_m (by decide)) hM.1 rfl rfl (Nat.le_of_ble_eq_true rfl) (Nat.zero_le _) (Nat.zero_le _) rfl ?_
    refine m_isBook hM hS.1 hS.2.1 ?_
    show gX l E _ 13 [some (ga 775), some (gi a), some (gi b), none, none, none, none, none, none, none] [gi (b2i (inR b 0 ((S.1.length : Int) - 1)))] (K, R, V) _ _
    refine gX_ifne (tgt := 20) dX12_slipped_13 (by decide) (fun m2 => ?_) (fun m2 => ?_)
    · have m2 := inR_1 m2
      have hr1 : 0 ≤ a ∧ a < S.1.length := ⟨by omega, by omega⟩
      have hr2 : 0 ≤ b ∧ b < S.1.length := ⟨by omega, by omega⟩
      have hk1 := (hS.2.2.2.1 a hr1.1 hr1.2).1.tx
      have hk2 := (hS.2.2.2.1 b hr2.1 hr2.2).1.tx
      rw [show (gbq S a).1 = gbX S a from rfl] at hk1
      rw [show (gbq S b).1 = gbX S b from rfl] at hk2
      refine gX_aloadn dX12_slipped_20 rfl ?_
      refine gX_iloadn dX12_slipped_21 rfl ?_
      refine gX_iloadn dX12_slipped_22 rfl ?_
      refine gX_virt (J := iX12_align) (av := [gi a, gi b]) (a := 775) (st := []) dX12_slipped_23 lkX12_422 kX12_align vX12_align (gFit_m (by decide)) hM.1 rfl rfl (Nat.le_of_ble_eq_true rfl) (Nat.zero_le _) (Nat.zero_le _) rfl ?_
      refine m_align hM ⟨by omega, by omega⟩ ⟨by omega, by omega⟩ hk1 hk2 (fun V1 hc1 hf1 => ?_)
      show gX l E _ 26 [some (ga 775), some (gi a), some (gi b), none, none, none, none, none, none, none] [] (K, R, V1) _ _
      obtain ⟨gs, egs⟩ : ∃ gs, gs = (gbq S a).2.1 := ⟨_, rfl⟩
      have hkq := hS.2.2.2.1 a hr1.1 hr1.2
      have hok := hO a hr1.1 hr1.2
      have hf9 : ∀ x, 776 ≤ x → x ≤ 799 → V1 x = V x := fun x h1 h2 => hf1 x (by omega) (by omega) (by omega)
      have hkb := hkq.1.kept hf9
      have hks := hkq.2.1.kept hf9
      rw [← egs] at hkb hks hok
      rw [show (gbq S a).1 = gbX S a from rfl] at hkb hks hok
      have hty : txI V1 b (gbX S b) := hk2.kept (hf9 776 (by omega) (by omega)) (hf9 777 (by omega) (by omega))
      have h20 := hkb.2.2.2.2.1
      have h40 := hkb.2.1
      have hy40 := hty.2.1
      have hpb := fun i => alg_bd (xs := gbX S a) (ys := gbX S b) hy40 i
      refine gX_iconst dX12_slipped_26 ⟨by decide, by decide⟩ ?_
      refine gX_istoren dX12_slipped_27 (show (3 : Nat) < 10 from by decide) (ls2 := [some (ga 775), some (gi a), some (gi b), some (gi 0), none, none, none, none, none, none]) rfl ?_
      refine gX_iconst dX12_slipped_28 ⟨by decide, by decide⟩ ?_
      refine gX_istore dX12_slipped_29 (show (4 : Nat) < 10 from by decide) (ls2 := [some (ga 775), some (gi a), some (gi b), some (gi 0), some (gi 0), none, none, none, none, none]) rfl ?_
      have lp : ∀ (jj : Nat) (g : Int) (x : Int) (j5 : Option gV) (j6 : Option gV) (j7 : Option gV) (j8 : Option gV) (j9 : Option gV) (bc bs : Nat), (gs.length : Int) - g < (jj : Int) → 0 ≤ g → g ≤ gs.length → in32 x → (Q (some (gi (slpM gs (alg (gbX S a) (gbX S b) 0) (gbX S b) (gs.length - g.toNat) g x))) (K, R, V1)) → gX l E (gFm E (d + 4) iX12_slipped Q) 31 [some (ga 775), some (gi a), some (gi b), some (gi x), some (gi g), j5, j6, j7, j8, j9] [] (K, R, V1) bc bs := by
        intro jj
        induction jj with
        | zero =>
          intro g x j5 j6 j7 j8 j9 bc bs hj q0 q1 hx9 hq2
          exfalso; omega
        | succ jj ih =>
          intro g x j5 j6 j7 j8 j9 bc bs hj q0 q1 hx9 hq2
          refine gX_iload dX12_slipped_31 rfl ?_
          refine gX_aloadn dX12_slipped_33 rfl ?_
          refine gX_gR 4 dX12_slipped_34 fdX12_19 rfl rfl hM.1 (mR4 hM) ?_
          refine gX_iloadn dX12_slipped_37 rfl ?_
          refine gX_iald dX12_slipped_38 (mA4 hM) (by omega) (by omega) ?_
          rw [hkb.2.2.2.1]
          refine gX_icmpge (tgt := 183) dX12_slipped_39 (by decide) (fun b1 => ?_) (fun b1 => ?_)
          · refine gX_iloadn dX12_slipped_183 rfl ?_
            refine gX_iret dX12_slipped_184 (Or.inl rfl) ?_
            have ei : gs.length - g.toNat = 0 := by omega
            rw [ei] at hq2
            exact hq2
          · have hgl := hkb.gl (g := g) (by omega) (by omega)
            have hso := hok.sp (g := g) (by omega) (by omega)
            have hr8 := hgl.2.2.2.1
            have hrg := hso.2.1.rg
            have hb0 := hso.2.2.1
            have hb1 := hso.2.2.2.1
            have hb2 := hso.2.2.2.2
            have hpf := hpb (gq gs g).2.2.1
            have hpl := hpb (gq gs g).2.2.2.1
            refine gX_bipush dX12_slipped_42 (by decide) ⟨by decide, by decide⟩ ?_
            refine gX_iloadn dX12_slipped_44 rfl ?_
            refine gX_imul dX12_slipped_45 ⟨by omega, by omega⟩ ?_
            refine gX_iload dX12_slipped_46 rfl ?_
            refine gX_iadd dX12_slipped_48 ⟨by omega, by omega⟩ ?_
            refine gX_istore dX12_slipped_49 (show (5 : Nat) < 10 from by decide) (ls2 := [some (ga 775), some (gi a), some (gi b), some (gi x), some (gi g), some (gi ((20 * a) + g)), j6, j7, j8, j9]) rfl ?_
            refine gX_aloadn dX12_slipped_51 rfl ?_
            refine gX_gR 6 dX12_slipped_52 fdX12_25 rfl rfl hM.1 (mR6 hM) ?_
            refine gX_iload dX12_slipped_55 rfl ?_
            refine gX_iald dX12_slipped_57 (mA6 hM) (by omega) (by omega) ?_
            rw [hgl.2.1]
            refine gX_ifge (tgt := 177) dX12_slipped_58 (by decide) (fun b2 => ?_) (fun b2 => ?_)
            · refine gX_iinc dX12_slipped_177 rfl (show (4 : Nat) < 10 from by decide) ⟨by omega, by omega⟩ (ls2 := [some (ga 775), some (gi a), some (gi b), some (gi x), some (gi (g + 1)), some (gi ((20 * a) + g)), j6, j7, j8, j9]) rfl ?_
              refine gX_goto (tgt := 31) dX12_slipped_180 (by decide) ?_
              have ek : gs.length - g.toNat = (gs.length - (g + 1).toNat) + 1 := by omega
              have e1 : slpM gs (alg (gbX S a) (gbX S b) 0) (gbX S b) (gs.length - g.toNat) g x = slpM gs (alg (gbX S a) (gbX S b) 0) (gbX S b) (gs.length - (g + 1).toNat) (g + 1) x := by
                rw [ek]
                show slpM gs _ _ _ _ (if _ then _ else _) = _
                rw [if_neg (by rintro ⟨z1, z2⟩; omega)]
              rw [e1] at hq2
              exact ih (g + 1) x _ _ _ _ _ _ _ (by omega) (by omega) (by omega) hx9 hq2
            · have hhn : (gq gs g).2.1 = -1 := by omega
              have hrx := rwL_n (tx := gbX S a) (gs := gs)
              rw [hhn, hrx] at hb2
              refine gX_aloadn dX12_slipped_61 rfl ?_
              refine gX_iloadn dX12_slipped_62 rfl ?_
              refine gX_iconst dX12_slipped_63 ⟨by decide, by decide⟩ ?_
              refine gX_aloadn dX12_slipped_64 rfl ?_
              refine gX_gR 7 dX12_slipped_65 fdX12_28 rfl rfl hM.1 (mR7 hM) ?_
              refine gX_iload dX12_slipped_68 rfl ?_
              refine gX_iald dX12_slipped_70 (mA7 hM) (by omega) (by omega) ?_
              refine gX_virt (J := iX12_firstOf) (av := [gi a, gi (-1), gi (V1 782 ((20 * a) + g))]) (a := 775) (st := []) dX12_slipped_71 lkX12_359 kX12_firstOf vX12_firstOf (gFit_m (by decide)) hM.1 rfl rfl (Nat.le_of_ble_eq_true rfl) (Nat.zero_le _) (Nat.zero_le _) rfl ?_
              refine m_firstOfE hM ⟨by omega, by omega⟩ hkb hks (by omega) (by omega) hso hhn ?_
              show gX l E _ 74 [some (ga 775), some (gi a), some (gi b), some (gi x), some (gi g), some (gi ((20 * a) + g)), j6, j7, j8, j9] [gi ((gq gs g).2.2.1)] (K, R, V1) _ _
              refine gX_istore dX12_slipped_74 (show (6 : Nat) < 10 from by decide) (ls2 := [some (ga 775), some (gi a), some (gi b), some (gi x), some (gi g), some (gi ((20 * a) + g)), some (gi ((gq gs g).2.2.1)), j7, j8, j9]) rfl ?_
              refine gX_aloadn dX12_slipped_76 rfl ?_
              refine gX_gR 58 dX12_slipped_77 fdX12_129 rfl rfl hM.1 (mR58 hM) ?_
              refine gX_iload dX12_slipped_80 rfl ?_
              refine gX_iald dX12_slipped_82 (mA58 hM) (by omega) (by omega) ?_
              rw [hc1.1 _ (by omega) (by omega)]
              refine gX_istore dX12_slipped_83 (show (7 : Nat) < 10 from by decide) (ls2 := [some (ga 775), some (gi a), some (gi b), some (gi x), some (gi g), some (gi ((20 * a) + g)), some (gi ((gq gs g).2.2.1)), some (gi (lat (alg (gbX S a) (gbX S b) 0) (gq gs g).2.2.1)), j8, j9]) rfl ?_
              refine gX_aloadn dX12_slipped_85 rfl ?_
              refine gX_gR 58 dX12_slipped_86 fdX12_129 rfl rfl hM.1 (mR58 hM) ?_
              refine gX_iload dX12_slipped_89 rfl ?_
              refine gX_aloadn dX12_slipped_91 rfl ?_
              refine gX_iloadn dX12_slipped_92 rfl ?_
              refine gX_iconst dX12_slipped_93 ⟨by decide, by decide⟩ ?_
              refine gX_aloadn dX12_slipped_94 rfl ?_
              refine gX_gR 7 dX12_slipped_95 fdX12_28 rfl rfl hM.1 (mR7 hM) ?_
              refine gX_iload dX12_slipped_98 rfl ?_
              refine gX_iald dX12_slipped_100 (mA7 hM) (by omega) (by omega) ?_
              refine gX_virt (J := iX12_lemmaSize) (av := [gi a, gi (-1), gi (V1 782 ((20 * a) + g))]) (a := 775) (st := [gi ((gq gs g).2.2.1), ga 814]) dX12_slipped_101 lkX12_362 kX12_lemmaSize vX12_lemmaSize (gFit_m (by decide)) hM.1 rfl rfl (Nat.le_of_ble_eq_true rfl) (Nat.zero_le _) (Nat.zero_le _) rfl ?_
              refine m_lemmaSizeE hM ⟨by omega, by omega⟩ hkb hks (by omega) (by omega) hso hhn ?_
              show gX l E _ 104 [some (ga 775), some (gi a), some (gi b), some (gi x), some (gi g), some (gi ((20 * a) + g)), some (gi ((gq gs g).2.2.1)), some (gi (lat (alg (gbX S a) (gbX S b) 0) (gq gs g).2.2.1)), j8, j9] [gi (lml (gq gs g)), gi ((gq gs g).2.2.1), ga 814] (K, R, V1) _ _
              have hlm : lml (gq gs g) = (gq gs g).2.2.2.1 - (gq gs g).2.2.1 + 1 := rfl
              refine gX_iadd dX12_slipped_104 ⟨by omega, by omega⟩ ?_
              refine gX_iconst dX12_slipped_105 ⟨by decide, by decide⟩ ?_
              refine gX_isub dX12_slipped_106 ⟨by omega, by omega⟩ ?_
              refine gX_iald dX12_slipped_107 (mA58 hM) (by omega) (by omega) ?_
              rw [show (gq gs g).2.2.1 + lml (gq gs g) - 1 = (gq gs g).2.2.2.1 by omega, hc1.1 _ (by omega) (by omega)]
              refine gX_istore dX12_slipped_108 (show (8 : Nat) < 10 from by decide) (ls2 := [some (ga 775), some (gi a), some (gi b), some (gi x), some (gi g), some (gi ((20 * a) + g)), some (gi ((gq gs g).2.2.1)), some (gi (lat (alg (gbX S a) (gbX S b) 0) (gq gs g).2.2.1)), some (gi (lat (alg (gbX S a) (gbX S b) 0) (gq gs g).2.2.2.1)), j9]) rfl ?_
              refine gX_iload dX12_slipped_110 rfl ?_
              refine gX_iflt (tgt := 135) dX12_slipped_112 (by decide) (fun b3 => ?_) (fun b3 => ?_)
              · refine gX_iload dX12_slipped_135 rfl ?_
                refine gX_iflt (tgt := 158) dX12_slipped_137 (by decide) (fun b4 => ?_) (fun b4 => ?_)
                · refine gX_iconst dX12_slipped_158 ⟨by decide, by decide⟩ ?_
                  refine gX_istore dX12_slipped_159 (show (9 : Nat) < 10 from by decide) (ls2 := [some (ga 775), some (gi a), some (gi b), some (gi x), some (gi g), some (gi ((20 * a) + g)), some (gi ((gq gs g).2.2.1)), some (gi (lat (alg (gbX S a) (gbX S b) 0) (gq gs g).2.2.1)), some (gi (lat (alg (gbX S a) (gbX S b) 0) (gq gs g).2.2.2.1)), some (gi 0)]) rfl ?_
                  refine gX_iloadn dX12_slipped_161 rfl ?_
                  refine gX_iload dX12_slipped_162 rfl ?_
                  refine gX_ifeq (tgt := 174) dX12_slipped_164 (by decide) (fun b5 => ?_) (fun b5 => by exfalso; omega)
                  refine gX_iconst dX12_slipped_174 ⟨by decide, by decide⟩ ?_
                  refine gX_ior dX12_slipped_175 ?_
                  rw [gor_00 hx9]
                  refine gX_istoren dX12_slipped_176 (show (3 : Nat) < 10 from by decide) (ls2 := [some (ga 775), some (gi a), some (gi b), some (gi x), some (gi g), some (gi ((20 * a) + g)), some (gi ((gq gs g).2.2.1)), some (gi (lat (alg (gbX S a) (gbX S b) 0) (gq gs g).2.2.1)), some (gi (lat (alg (gbX S a) (gbX S b) 0) (gq gs g).2.2.2.1)), some (gi 0)]) rfl ?_
                  refine gX_iinc dX12_slipped_177 rfl (show (4 : Nat) < 10 from by decide) ⟨by omega, by omega⟩ (ls2 := [some (ga 775), some (gi a), some (gi b), some (gi x), some (gi (g + 1)), some (gi ((20 * a) + g)), some (gi ((gq gs g).2.2.1)), some (gi (lat (alg (gbX S a) (gbX S b) 0) (gq gs g).2.2.1)), some (gi (lat (alg (gbX S a) (gbX S b) 0) (gq gs g).2.2.2.1)), some (gi 0)]) rfl ?_
                  refine gX_goto (tgt := 31) dX12_slipped_180 (by decide) ?_
                  have d1 : lat (alg (gbX S a) (gbX S b) 0) (gq gs g).2.2.1 < 0 → decide (0 ≤ lat (alg (gbX S a) (gbX S b) 0) (gq gs g).2.2.1) = false := fun z => decide_eq_false (by omega)
                  have d2 : 0 ≤ lat (alg (gbX S a) (gbX S b) 0) (gq gs g).2.2.1 → decide (0 ≤ lat (alg (gbX S a) (gbX S b) 0) (gq gs g).2.2.1) = true := fun z => decide_eq_true z
                  have d3 : lat (alg (gbX S a) (gbX S b) 0) (gq gs g).2.2.2.1 < 0 → decide (0 ≤ lat (alg (gbX S a) (gbX S b) 0) (gq gs g).2.2.2.1) = false := fun z => decide_eq_false (by omega)
                  have d4 : 0 ≤ lat (alg (gbX S a) (gbX S b) 0) (gq gs g).2.2.2.1 → decide (0 ≤ lat (alg (gbX S a) (gbX S b) 0) (gq gs g).2.2.2.1) = true := fun z => decide_eq_true z
                  have hsm : ¬ hsM (alg (gbX S a) (gbX S b) 0) (gbX S b) (gq gs g) = true := by
                    unfold hsM
                    first
                    | (rw [d1 (by omega), d3 (by omega)]; simp)
                    | (rw [d1 (by omega), b2i_0 (b := pM (gq gs g).2.2.2.2.2 (gbX S b) (alg (gbX S a) (gbX S b) 0) (lat (alg (gbX S a) (gbX S b) 0) (gq gs g).2.2.2.1 + 1)) (by assumption)]; simp)
                    | (rw [b2i_0 (b := pM (gq gs g).2.2.2.2.2 (gbX S b) (alg (gbX S a) (gbX S b) 0) (lat (alg (gbX S a) (gbX S b) 0) (gq gs g).2.2.1 - (gq gs g).2.2.2.2.2.length)) (by assumption), d3 (by omega)]; simp)
                    | (rw [b2i_0 (b := pM (gq gs g).2.2.2.2.2 (gbX S b) (alg (gbX S a) (gbX S b) 0) (lat (alg (gbX S a) (gbX S b) 0) (gq gs g).2.2.1 - (gq gs g).2.2.2.2.2.length)) (by assumption), b2i_0 (b := pM (gq gs g).2.2.2.2.2 (gbX S b) (alg (gbX S a) (gbX S b) 0) (lat (alg (gbX S a) (gbX S b) 0) (gq gs g).2.2.2.1 + 1)) (by assumption)]; simp)
                  have ek : gs.length - g.toNat = (gs.length - (g + 1).toNat) + 1 := by omega
                  have e1 : slpM gs (alg (gbX S a) (gbX S b) 0) (gbX S b) (gs.length - g.toNat) g x = slpM gs (alg (gbX S a) (gbX S b) 0) (gbX S b) (gs.length - (g + 1).toNat) (g + 1) x := by
                    rw [ek]
                    show slpM gs _ _ _ _ (if _ then _ else _) = _
                    rw [if_neg (fun z => hsm z.2)]
                  rw [e1] at hq2
                  exact ih (g + 1) x _ _ _ _ _ _ _ (by omega) (by omega) (by omega) hx9 hq2
                · refine gX_aloadn dX12_slipped_140 rfl ?_
                  refine gX_iload dX12_slipped_141 rfl ?_
                  refine gX_iloadn dX12_slipped_143 rfl ?_
                  refine gX_iload dX12_slipped_144 rfl ?_
                  refine gX_iconst dX12_slipped_146 ⟨by decide, by decide⟩ ?_
                  refine gX_iadd dX12_slipped_147 ⟨by omega, by omega⟩ ?_
                  refine gX_virt (J := iX12_isPutAt) (av := [gi ((20 * a) + g), gi b, gi ((lat (alg (gbX S a) (gbX S b) 0) (gq gs g).2.2.2.1) + 1)]) (a := 775) (st := []) dX12_slipped_148 lkX12_425 kX12_isPutAt vX12_isPutAt (gFit_m (by decide)) hM.1 rfl rfl (Nat.le_of_ble_eq_true rfl) (Nat.zero_le _) (Nat.zero_le _) rfl ?_
                  refine m_isPutAt (pa := (alg (gbX S a) (gbX S b) 0)) hM ⟨by omega, by omega⟩ ⟨by omega, by omega⟩ hgl hty hc1.2 ⟨by omega, by omega⟩ ?_
                  show gX l E _ 151 [some (ga 775), some (gi a), some (gi b), some (gi x), some (gi g), some (gi ((20 * a) + g)), some (gi ((gq gs g).2.2.1)), some (gi (lat (alg (gbX S a) (gbX S b) 0) (gq gs g).2.2.1)), some (gi (lat (alg (gbX S a) (gbX S b) 0) (gq gs g).2.2.2.1)), j9] [gi (b2i (pM (gq gs g).2.2.2.2.2 (gbX S b) (alg (gbX S a) (gbX S b) 0) (lat (alg (gbX S a) (gbX S b) 0) (gq gs g).2.2.2.1 + 1)))] (K, R, V1) _ _
                  refine gX_ifeq (tgt := 158) dX12_slipped_151 (by decide) (fun b6 => ?_) (fun b6 => ?_)
                  · refine gX_iconst dX12_slipped_158 ⟨by decide, by decide⟩ ?_
                    refine gX_istore dX12_slipped_159 (show (9 : Nat) < 10 from by decide) (ls2 := [some (ga 775), some (gi a), some (gi b), some (gi x), some (gi g), some (gi ((20 * a) + g)), some (gi ((gq gs g).2.2.1)), some (gi (lat (alg (gbX S a) (gbX S b) 0) (gq gs g).2.2.1)), some (gi (lat (alg (gbX S a) (gbX S b) 0) (gq gs g).2.2.2.1)), some (gi 0)]) rfl ?_
                    refine gX_iloadn dX12_slipped_161 rfl ?_
                    refine gX_iload dX12_slipped_162 rfl ?_
                    refine gX_ifeq (tgt := 174) dX12_slipped_164 (by decide) (fun b7 => ?_) (fun b7 => by exfalso; omega)
                    refine gX_iconst dX12_slipped_174 ⟨by decide, by decide⟩ ?_
                    refine gX_ior dX12_slipped_175 ?_
                    rw [gor_00 hx9]
                    refine gX_istoren dX12_slipped_176 (show (3 : Nat) < 10 from by decide) (ls2 := [some (ga 775), some (gi a), some (gi b), some (gi x), some (gi g), some (gi ((20 * a) + g)), some (gi ((gq gs g).2.2.1)), some (gi (lat (alg (gbX S a) (gbX S b) 0) (gq gs g).2.2.1)), some (gi (lat (alg (gbX S a) (gbX S b) 0) (gq gs g).2.2.2.1)), some (gi 0)]) rfl ?_
                    refine gX_iinc dX12_slipped_177 rfl (show (4 : Nat) < 10 from by decide) ⟨by omega, by omega⟩ (ls2 := [some (ga 775), some (gi a), some (gi b), some (gi x), some (gi (g + 1)), some (gi ((20 * a) + g)), some (gi ((gq gs g).2.2.1)), some (gi (lat (alg (gbX S a) (gbX S b) 0) (gq gs g).2.2.1)), some (gi (lat (alg (gbX S a) (gbX S b) 0) (gq gs g).2.2.2.1)), some (gi 0)]) rfl ?_
                    refine gX_goto (tgt := 31) dX12_slipped_180 (by decide) ?_
                    have d1 : lat (alg (gbX S a) (gbX S b) 0) (gq gs g).2.2.1 < 0 → decide (0 ≤ lat (alg (gbX S a) (gbX S b) 0) (gq gs g).2.2.1) = false := fun z => decide_eq_false (by omega)
                    have d2 : 0 ≤ lat (alg (gbX S a) (gbX S b) 0) (gq gs g).2.2.1 → decide (0 ≤ lat (alg (gbX S a) (gbX S b) 0) (gq gs g).2.2.1) = true := fun z => decide_eq_true z
                    have d3 : lat (alg (gbX S a) (gbX S b) 0) (gq gs g).2.2.2.1 < 0 → decide (0 ≤ lat (alg (gbX S a) (gbX S b) 0) (gq gs g).2.2.2.1) = false := fun z => decide_eq_false (by omega)
                    have d4 : 0 ≤ lat (alg (gbX S a) (gbX S b) 0) (gq gs g).2.2.2.1 → decide (0 ≤ lat (alg (gbX S a) (gbX S b) 0) (gq gs g).2.2.2.1) = true := fun z => decide_eq_true z
                    have hsm : ¬ hsM (alg (gbX S a) (gbX S b) 0) (gbX S b) (gq gs g) = true := by
                      unfold hsM
                      first
                      | (rw [d1 (by omega), d3 (by omega)]; simp)
                      | (rw [d1 (by omega), b2i_0 (b := pM (gq gs g).2.2.2.2.2 (gbX S b) (alg (gbX S a) (gbX S b) 0) (lat (alg (gbX S a) (gbX S b) 0) (gq gs g).2.2.2.1 + 1)) (by assumption)]; simp)
                      | (rw [b2i_0 (b := pM (gq gs g).2.2.2.2.2 (gbX S b) (alg (gbX S a) (gbX S b) 0) (lat (alg (gbX S a) (gbX S b) 0) (gq gs g).2.2.1 - (gq gs g).2.2.2.2.2.length)) (by assumption), d3 (by omega)]; simp)
                      | (rw [b2i_0 (b := pM (gq gs g).2.2.2.2.2 (gbX S b) (alg (gbX S a) (gbX S b) 0) (lat (alg (gbX S a) (gbX S b) 0) (gq gs g).2.2.1 - (gq gs g).2.2.2.2.2.length)) (by assumption), b2i_0 (b := pM (gq gs g).2.2.2.2.2 (gbX S b) (alg (gbX S a) (gbX S b) 0) (lat (alg (gbX S a) (gbX S b) 0) (gq gs g).2.2.2.1 + 1)) (by assumption)]; simp)
                    have ek : gs.length - g.toNat = (gs.length - (g + 1).toNat) + 1 := by omega
                    have e1 : slpM gs (alg (gbX S a) (gbX S b) 0) (gbX S b) (gs.length - g.toNat) g x = slpM gs (alg (gbX S a) (gbX S b) 0) (gbX S b) (gs.length - (g + 1).toNat) (g + 1) x := by
                      rw [ek]
                      show slpM gs _ _ _ _ (if _ then _ else _) = _
                      rw [if_neg (fun z => hsm z.2)]
                    rw [e1] at hq2
                    exact ih (g + 1) x _ _ _ _ _ _ _ (by omega) (by omega) (by omega) hx9 hq2
                  · refine gX_iconst dX12_slipped_154 ⟨by decide, by decide⟩ ?_
                    refine gX_goto (tgt := 159) dX12_slipped_155 (by decide) ?_
                    refine gX_istore dX12_slipped_159 (show (9 : Nat) < 10 from by decide) (ls2 := [some (ga 775), some (gi a), some (gi b), some (gi x), some (gi g), some (gi ((20 * a) + g)), some (gi ((gq gs g).2.2.1)), some (gi (lat (alg (gbX S a) (gbX S b) 0) (gq gs g).2.2.1)), some (gi (lat (alg (gbX S a) (gbX S b) 0) (gq gs g).2.2.2.1)), some (gi 1)]) rfl ?_
                    refine gX_iloadn dX12_slipped_161 rfl ?_
                    refine gX_iload dX12_slipped_162 rfl ?_
                    refine gX_ifeq (tgt := 174) dX12_slipped_164 (by decide) (fun b8 => by exfalso; omega) (fun b8 => ?_)
                    refine gX_iconst dX12_slipped_167 ⟨by decide, by decide⟩ ?_
                    refine gX_iload dX12_slipped_168 rfl ?_
                    refine gX_ishl dX12_slipped_170 ?_
                    refine gX_goto (tgt := 175) dX12_slipped_171 (by decide) ?_
                    refine gX_ior dX12_slipped_175 ?_
                    refine gX_istoren dX12_slipped_176 (show (3 : Nat) < 10 from by decide) (ls2 := [some (ga 775), some (gi a), some (gi b), some (gi (gor x (gshl 1 g))), some (gi g), some (gi ((20 * a) + g)), some (gi ((gq gs g).2.2.1)), some (gi (lat (alg (gbX S a) (gbX S b) 0) (gq gs g).2.2.1)), some (gi (lat (alg (gbX S a) (gbX S b) 0) (gq gs g).2.2.2.1)), some (gi 1)]) rfl ?_
                    refine gX_iinc dX12_slipped_177 rfl (show (4 : Nat) < 10 from by decide) ⟨by omega, by omega⟩ (ls2 := [some (ga 775), some (gi a), some (gi b), some (gi (gor x (gshl 1 g))), some (gi (g + 1)), some (gi ((20 * a) + g)), some (gi ((gq gs g).2.2.1)), some (gi (lat (alg (gbX S a) (gbX S b) 0) (gq gs g).2.2.1)), some (gi (lat (alg (gbX S a) (gbX S b) 0) (gq gs g).2.2.2.1)), some (gi 1)]) rfl ?_
                    refine gX_goto (tgt := 31) dX12_slipped_180 (by decide) ?_
                    have d1 : lat (alg (gbX S a) (gbX S b) 0) (gq gs g).2.2.1 < 0 → decide (0 ≤ lat (alg (gbX S a) (gbX S b) 0) (gq gs g).2.2.1) = false := fun z => decide_eq_false (by omega)
                    have d2 : 0 ≤ lat (alg (gbX S a) (gbX S b) 0) (gq gs g).2.2.1 → decide (0 ≤ lat (alg (gbX S a) (gbX S b) 0) (gq gs g).2.2.1) = true := fun z => decide_eq_true z
                    have d3 : lat (alg (gbX S a) (gbX S b) 0) (gq gs g).2.2.2.1 < 0 → decide (0 ≤ lat (alg (gbX S a) (gbX S b) 0) (gq gs g).2.2.2.1) = false := fun z => decide_eq_false (by omega)
                    have d4 : 0 ≤ lat (alg (gbX S a) (gbX S b) 0) (gq gs g).2.2.2.1 → decide (0 ≤ lat (alg (gbX S a) (gbX S b) 0) (gq gs g).2.2.2.1) = true := fun z => decide_eq_true z
                    have hsm : hsM (alg (gbX S a) (gbX S b) 0) (gbX S b) (gq gs g) = true := by
                      unfold hsM
                      first
                      | (rw [d2 (by omega), b2i_1 (b := pM (gq gs g).2.2.2.2.2 (gbX S b) (alg (gbX S a) (gbX S b) 0) (lat (alg (gbX S a) (gbX S b) 0) (gq gs g).2.2.1 - (gq gs g).2.2.2.2.2.length)) (by assumption)]; rfl)
                      | (rw [d4 (by omega), b2i_1 (b := pM (gq gs g).2.2.2.2.2 (gbX S b) (alg (gbX S a) (gbX S b) 0) (lat (alg (gbX S a) (gbX S b) 0) (gq gs g).2.2.2.1 + 1)) (by assumption)]; simp)
                    have ek : gs.length - g.toNat = (gs.length - (g + 1).toNat) + 1 := by omega
                    have e1 : slpM gs (alg (gbX S a) (gbX S b) 0) (gbX S b) (gs.length - g.toNat) g x = slpM gs (alg (gbX S a) (gbX S b) 0) (gbX S b) (gs.length - (g + 1).toNat) (g + 1) (gor x (gshl 1 g)) := by
                      rw [ek]
                      show slpM gs _ _ _ _ (if _ then _ else _) = _
                      rw [if_pos ⟨by omega, hsm⟩]
                    rw [e1] at hq2
                    exact ih (g + 1) _ _ _ _ _ _ _ _ (by omega) (by omega) (by omega) (gor_in _ _) hq2
              · refine gX_aloadn dX12_slipped_115 rfl ?_
                refine gX_iload dX12_slipped_116 rfl ?_
                refine gX_iloadn dX12_slipped_118 rfl ?_
                refine gX_iload dX12_slipped_119 rfl ?_
                refine gX_aloadn dX12_slipped_121 rfl ?_
                refine gX_gR 8 dX12_slipped_122 fdX12_31 rfl rfl hM.1 (mR8 hM) ?_
                refine gX_iload dX12_slipped_125 rfl ?_
                refine gX_iald dX12_slipped_127 (mA8 hM) (by omega) (by omega) ?_
                rw [hgl.2.2.1]
                refine gX_isub dX12_slipped_128 ⟨by omega, by omega⟩ ?_
                refine gX_virt (J := iX12_isPutAt) (av := [gi (20 * a + g), gi b, gi ((lat (alg (gbX S a) (gbX S b) 0) (gq gs g).2.2.1) - ((gq gs g).2.2.2.2.2.length : Int))]) (a := 775) (st := []) dX12_slipped_129 lkX12_425 kX12_isPutAt vX12_isPutAt (gFit_m (by decide)) hM.1 rfl rfl (Nat.le_of_ble_eq_true rfl) (Nat.zero_le _) (Nat.zero_le _) rfl ?_
                refine m_isPutAt (pa := (alg (gbX S a) (gbX S b) 0)) hM ⟨by omega, by omega⟩ ⟨by omega, by omega⟩ hgl hty hc1.2 ⟨by omega, by omega⟩ ?_
                show gX l E _ 132 [some (ga 775), some (gi a), some (gi b), some (gi x), some (gi g), some (gi ((20 * a) + g)), some (gi ((gq gs g).2.2.1)), some (gi (lat (alg (gbX S a) (gbX S b) 0) (gq gs g).2.2.1)), some (gi (lat (alg (gbX S a) (gbX S b) 0) (gq gs g).2.2.2.1)), j9] [gi (b2i (pM (gq gs g).2.2.2.2.2 (gbX S b) (alg (gbX S a) (gbX S b) 0) (lat (alg (gbX S a) (gbX S b) 0) (gq gs g).2.2.1 - (gq gs g).2.2.2.2.2.length)))] (K, R, V1) _ _
                refine gX_ifne (tgt := 154) dX12_slipped_132 (by decide) (fun b9 => ?_) (fun b9 => ?_)
                · refine gX_iconst dX12_slipped_154 ⟨by decide, by decide⟩ ?_
                  refine gX_goto (tgt := 159) dX12_slipped_155 (by decide) ?_
                  refine gX_istore dX12_slipped_159 (show (9 : Nat) < 10 from by decide) (ls2 := [some (ga 775), some (gi a), some (gi b), some (gi x), some (gi g), some (gi ((20 * a) + g)), some (gi ((gq gs g).2.2.1)), some (gi (lat (alg (gbX S a) (gbX S b) 0) (gq gs g).2.2.1)), some (gi (lat (alg (gbX S a) (gbX S b) 0) (gq gs g).2.2.2.1)), some (gi 1)]) rfl ?_
                  refine gX_iloadn dX12_slipped_161 rfl ?_
                  refine gX_iload dX12_slipped_162 rfl ?_
                  refine gX_ifeq (tgt := 174) dX12_slipped_164 (by decide) (fun b10 => by exfalso; omega) (fun b10 => ?_)
                  refine gX_iconst dX12_slipped_167 ⟨by decide, by decide⟩ ?_
                  refine gX_iload dX12_slipped_168 rfl ?_
                  refine gX_ishl dX12_slipped_170 ?_
                  refine gX_goto (tgt := 175) dX12_slipped_171 (by decide) ?_
                  refine gX_ior dX12_slipped_175 ?_
                  refine gX_istoren dX12_slipped_176 (show (3 : Nat) < 10 from by decide) (ls2 := [some (ga 775), some (gi a), some (gi b), some (gi (gor x (gshl 1 g))), some (gi g), some (gi ((20 * a) + g)), some (gi ((gq gs g).2.2.1)), some (gi (lat (alg (gbX S a) (gbX S b) 0) (gq gs g).2.2.1)), some (gi (lat (alg (gbX S a) (gbX S b) 0) (gq gs g).2.2.2.1)), some (gi 1)]) rfl ?_
                  refine gX_iinc dX12_slipped_177 rfl (show (4 : Nat) < 10 from by decide) ⟨by omega, by omega⟩ (ls2 := [some (ga 775), some (gi a), some (gi b), some (gi (gor x (gshl 1 g))), some (gi (g + 1)), some (gi ((20 * a) + g)), some (gi ((gq gs g).2.2.1)), some (gi (lat (alg (gbX S a) (gbX S b) 0) (gq gs g).2.2.1)), some (gi (lat (alg (gbX S a) (gbX S b) 0) (gq gs g).2.2.2.1)), some (gi 1)]) rfl ?_
                  refine gX_goto (tgt := 31) dX12_slipped_180 (by decide) ?_
                  have d1 : lat (alg (gbX S a) (gbX S b) 0) (gq gs g).2.2.1 < 0 → decide (0 ≤ lat (alg (gbX S a) (gbX S b) 0) (gq gs g).2.2.1) = false := fun z => decide_eq_false (by omega)
                  have d2 : 0 ≤ lat (alg (gbX S a) (gbX S b) 0) (gq gs g).2.2.1 → decide (0 ≤ lat (alg (gbX S a) (gbX S b) 0) (gq gs g).2.2.1) = true := fun z => decide_eq_true z
                  have d3 : lat (alg (gbX S a) (gbX S b) 0) (gq gs g).2.2.2.1 < 0 → decide (0 ≤ lat (alg (gbX S a) (gbX S b) 0) (gq gs g).2.2.2.1) = false := fun z => decide_eq_false (by omega)
                  have d4 : 0 ≤ lat (alg (gbX S a) (gbX S b) 0) (gq gs g).2.2.2.1 → decide (0 ≤ lat (alg (gbX S a) (gbX S b) 0) (gq gs g).2.2.2.1) = true := fun z => decide_eq_true z
                  have hsm : hsM (alg (gbX S a) (gbX S b) 0) (gbX S b) (gq gs g) = true := by
                    unfold hsM
                    first
                    | (rw [d2 (by omega), b2i_1 (b := pM (gq gs g).2.2.2.2.2 (gbX S b) (alg (gbX S a) (gbX S b) 0) (lat (alg (gbX S a) (gbX S b) 0) (gq gs g).2.2.1 - (gq gs g).2.2.2.2.2.length)) (by assumption)]; rfl)
                    | (rw [d4 (by omega), b2i_1 (b := pM (gq gs g).2.2.2.2.2 (gbX S b) (alg (gbX S a) (gbX S b) 0) (lat (alg (gbX S a) (gbX S b) 0) (gq gs g).2.2.2.1 + 1)) (by assumption)]; simp)
                  have ek : gs.length - g.toNat = (gs.length - (g + 1).toNat) + 1 := by omega
                  have e1 : slpM gs (alg (gbX S a) (gbX S b) 0) (gbX S b) (gs.length - g.toNat) g x = slpM gs (alg (gbX S a) (gbX S b) 0) (gbX S b) (gs.length - (g + 1).toNat) (g + 1) (gor x (gshl 1 g)) := by
                    rw [ek]
                    show slpM gs _ _ _ _ (if _ then _ else _) = _
                    rw [if_pos ⟨by omega, hsm⟩]
                  rw [e1] at hq2
                  exact ih (g + 1) _ _ _ _ _ _ _ _ (by omega) (by omega) (by omega) (gor_in _ _) hq2
                · refine gX_iload dX12_slipped_135 rfl ?_
                  refine gX_iflt (tgt := 158) dX12_slipped_137 (by decide) (fun b11 => ?_) (fun b11 => ?_)
                  · refine gX_iconst dX12_slipped_158 ⟨by decide, by decide⟩ ?_
                    refine gX_istore dX12_slipped_159 (show (9 : Nat) < 10 from by decide) (ls2 := [some (ga 775), some (gi a), some (gi b), some (gi x), some (gi g), some (gi ((20 * a) + g)), some (gi ((gq gs g).2.2.1)), some (gi (lat (alg (gbX S a) (gbX S b) 0) (gq gs g).2.2.1)), some (gi (lat (alg (gbX S a) (gbX S b) 0) (gq gs g).2.2.2.1)), some (gi 0)]) rfl ?_
                    refine gX_iloadn dX12_slipped_161 rfl ?_
                    refine gX_iload dX12_slipped_162 rfl ?_
                    refine gX_ifeq (tgt := 174) dX12_slipped_164 (by decide) (fun b12 => ?_) (fun b12 => by exfalso; omega)
                    refine gX_iconst dX12_slipped_174 ⟨by decide, by decide⟩ ?_
                    refine gX_ior dX12_slipped_175 ?_
                    rw [gor_00 hx9]
                    refine gX_istoren dX12_slipped_176 (show (3 : Nat) < 10 from by decide) (ls2 := [some (ga 775), some (gi a), some (gi b), some (gi x), some (gi g), some (gi ((20 * a) + g)), some (gi ((gq gs g).2.2.1)), some (gi (lat (alg (gbX S a) (gbX S b) 0) (gq gs g).2.2.1)), some (gi (lat (alg (gbX S a) (gbX S b) 0) (gq gs g).2.2.2.1)), some (gi 0)]) rfl ?_
                    refine gX_iinc dX12_slipped_177 rfl (show (4 : Nat) < 10 from by decide) ⟨by omega, by omega⟩ (ls2 := [some (ga 775), some (gi a), some (gi b), some (gi x), some (gi (g + 1)), some (gi ((20 * a) + g)), some (gi ((gq gs g).2.2.1)), some (gi (lat (alg (gbX S a) (gbX S b) 0) (gq gs g).2.2.1)), some (gi (lat (alg (gbX S a) (gbX S b) 0) (gq gs g).2.2.2.1)), some (gi 0)]) rfl ?_
                    refine gX_goto (tgt := 31) dX12_slipped_180 (by decide) ?_
                    have d1 : lat (alg (gbX S a) (gbX S b) 0) (gq gs g).2.2.1 < 0 → decide (0 ≤ lat (alg (gbX S a) (gbX S b) 0) (gq gs g).2.2.1) = false := fun z => decide_eq_false (by omega)
                    have d2 : 0 ≤ lat (alg (gbX S a) (gbX S b) 0) (gq gs g).2.2.1 → decide (0 ≤ lat (alg (gbX S a) (gbX S b) 0) (gq gs g).2.2.1) = true := fun z => decide_eq_true z
                    have d3 : lat (alg (gbX S a) (gbX S b) 0) (gq gs g).2.2.2.1 < 0 → decide (0 ≤ lat (alg (gbX S a) (gbX S b) 0) (gq gs g).2.2.2.1) = false := fun z => decide_eq_false (by omega)
                    have d4 : 0 ≤ lat (alg (gbX S a) (gbX S b) 0) (gq gs g).2.2.2.1 → decide (0 ≤ lat (alg (gbX S a) (gbX S b) 0) (gq gs g).2.2.2.1) = true := fun z => decide_eq_true z
                    have hsm : ¬ hsM (alg (gbX S a) (gbX S b) 0) (gbX S b) (gq gs g) = true := by
                      unfold hsM
                      first
                      | (rw [d1 (by omega), d3 (by omega)]; simp)
                      | (rw [d1 (by omega), b2i_0 (b := pM (gq gs g).2.2.2.2.2 (gbX S b) (alg (gbX S a) (gbX S b) 0) (lat (alg (gbX S a) (gbX S b) 0) (gq gs g).2.2.2.1 + 1)) (by assumption)]; simp)
                      | (rw [b2i_0 (b := pM (gq gs g).2.2.2.2.2 (gbX S b) (alg (gbX S a) (gbX S b) 0) (lat (alg (gbX S a) (gbX S b) 0) (gq gs g).2.2.1 - (gq gs g).2.2.2.2.2.length)) (by assumption), d3 (by omega)]; simp)
                      | (rw [b2i_0 (b := pM (gq gs g).2.2.2.2.2 (gbX S b) (alg (gbX S a) (gbX S b) 0) (lat (alg (gbX S a) (gbX S b) 0) (gq gs g).2.2.1 - (gq gs g).2.2.2.2.2.length)) (by assumption), b2i_0 (b := pM (gq gs g).2.2.2.2.2 (gbX S b) (alg (gbX S a) (gbX S b) 0) (lat (alg (gbX S a) (gbX S b) 0) (gq gs g).2.2.2.1 + 1)) (by assumption)]; simp)
                    have ek : gs.length - g.toNat = (gs.length - (g + 1).toNat) + 1 := by omega
                    have e1 : slpM gs (alg (gbX S a) (gbX S b) 0) (gbX S b) (gs.length - g.toNat) g x = slpM gs (alg (gbX S a) (gbX S b) 0) (gbX S b) (gs.length - (g + 1).toNat) (g + 1) x := by
                      rw [ek]
                      show slpM gs _ _ _ _ (if _ then _ else _) = _
                      rw [if_neg (fun z => hsm z.2)]
                    rw [e1] at hq2
                    exact ih (g + 1) x _ _ _ _ _ _ _ (by omega) (by omega) (by omega) hx9 hq2
                  · refine gX_aloadn dX12_slipped_140 rfl ?_
                    refine gX_iload dX12_slipped_141 rfl ?_
                    refine gX_iloadn dX12_slipped_143 rfl ?_
                    refine gX_iload dX12_slipped_144 rfl ?_
                    refine gX_iconst dX12_slipped_146 ⟨by decide, by decide⟩ ?_
                    refine gX_iadd dX12_slipped_147 ⟨by omega, by omega⟩ ?_
                    refine gX_virt (J := iX12_isPutAt) (av := [gi ((20 * a) + g), gi b, gi ((lat (alg (gbX S a) (gbX S b) 0) (gq gs g).2.2.2.1) + 1)]) (a := 775) (st := []) dX12_slipped_148 lkX12_425 kX12_isPutAt vX12_isPutAt (gFit_m (by decide)) hM.1 rfl rfl (Nat.le_of_ble_eq_true rfl) (Nat.zero_le _) (Nat.zero_le _) rfl ?_
                    refine m_isPutAt (pa := (alg (gbX S a) (gbX S b) 0)) hM ⟨by omega, by omega⟩ ⟨by omega, by omega⟩ hgl hty hc1.2 ⟨by omega, by omega⟩ ?_
                    show gX l E _ 151 [some (ga 775), some (gi a), some (gi b), some (gi x), some (gi g), some (gi ((20 * a) + g)), some (gi ((gq gs g).2.2.1)), some (gi (lat (alg (gbX S a) (gbX S b) 0) (gq gs g).2.2.1)), some (gi (lat (alg (gbX S a) (gbX S b) 0) (gq gs g).2.2.2.1)), j9] [gi (b2i (pM (gq gs g).2.2.2.2.2 (gbX S b) (alg (gbX S a) (gbX S b) 0) (lat (alg (gbX S a) (gbX S b) 0) (gq gs g).2.2.2.1 + 1)))] (K, R, V1) _ _
                    refine gX_ifeq (tgt := 158) dX12_slipped_151 (by decide) (fun b13 => ?_) (fun b13 => ?_)
                    · refine gX_iconst dX12_slipped_158 ⟨by decide, by decide⟩ ?_
                      refine gX_istore dX12_slipped_159 (show (9 : Nat) < 10 from by decide) (ls2 := [some (ga 775), some (gi a), some (gi b), some (gi x), some (gi g), some (gi ((20 * a) + g)), some (gi ((gq gs g).2.2.1)), some (gi (lat (alg (gbX S a) (gbX S b) 0) (gq gs g).2.2.1)), some (gi (lat (alg (gbX S a) (gbX S b) 0) (gq gs g).2.2.2.1)), some (gi 0)]) rfl ?_
                      refine gX_iloadn dX12_slipped_161 rfl ?_
                      refine gX_iload dX12_slipped_162 rfl ?_
                      refine gX_ifeq (tgt := 174) dX12_slipped_164 (by decide) (fun b14 => ?_) (fun b14 => by exfalso; omega)
                      refine gX_iconst dX12_slipped_174 ⟨by decide, by decide⟩ ?_
                      refine gX_ior dX12_slipped_175 ?_
                      rw [gor_00 hx9]
                      refine gX_istoren dX12_slipped_176 (show (3 : Nat) < 10 from by decide) (ls2 := [some (ga 775), some (gi a), some (gi b), some (gi x), some (gi g), some (gi ((20 * a) + g)), some (gi ((gq gs g).2.2.1)), some (gi (lat (alg (gbX S a) (gbX S b) 0) (gq gs g).2.2.1)), some (gi (lat (alg (gbX S a) (gbX S b) 0) (gq gs g).2.2.2.1)), some (gi 0)]) rfl ?_
                      refine gX_iinc dX12_slipped_177 rfl (show (4 : Nat) < 10 from by decide) ⟨by omega, by omega⟩ (ls2 := [some (ga 775), some (gi a), some (gi b), some (gi x), some (gi (g + 1)), some (gi ((20 * a) + g)), some (gi ((gq gs g).2.2.1)), some (gi (lat (alg (gbX S a) (gbX S b) 0) (gq gs g).2.2.1)), some (gi (lat (alg (gbX S a) (gbX S b) 0) (gq gs g).2.2.2.1)), some (gi 0)]) rfl ?_
                      refine gX_goto (tgt := 31) dX12_slipped_180 (by decide) ?_
                      have d1 : lat (alg (gbX S a) (gbX S b) 0) (gq gs g).2.2.1 < 0 → decide (0 ≤ lat (alg (gbX S a) (gbX S b) 0) (gq gs g).2.2.1) = false := fun z => decide_eq_false (by omega)
                      have d2 : 0 ≤ lat (alg (gbX S a) (gbX S b) 0) (gq gs g).2.2.1 → decide (0 ≤ lat (alg (gbX S a) (gbX S b) 0) (gq gs g).2.2.1) = true := fun z => decide_eq_true z
                      have d3 : lat (alg (gbX S a) (gbX S b) 0) (gq gs g).2.2.2.1 < 0 → decide (0 ≤ lat (alg (gbX S a) (gbX S b) 0) (gq gs g).2.2.2.1) = false := fun z => decide_eq_false (by omega)
                      have d4 : 0 ≤ lat (alg (gbX S a) (gbX S b) 0) (gq gs g).2.2.2.1 → decide (0 ≤ lat (alg (gbX S a) (gbX S b) 0) (gq gs g).2.2.2.1) = true := fun z => decide_eq_true z
                      have hsm : ¬ hsM (alg (gbX S a) (gbX S b) 0) (gbX S b) (gq gs g) = true := by
                        unfold hsM
                        first
                        | (rw [d1 (by omega), d3 (by omega)]; simp)
                        | (rw [d1 (by omega), b2i_0 (b := pM (gq gs g).2.2.2.2.2 (gbX S b) (alg (gbX S a) (gbX S b) 0) (lat (alg (gbX S a) (gbX S b) 0) (gq gs g).2.2.2.1 + 1)) (by assumption)]; simp)
                        | (rw [b2i_0 (b := pM (gq gs g).2.2.2.2.2 (gbX S b) (alg (gbX S a) (gbX S b) 0) (lat (alg (gbX S a) (gbX S b) 0) (gq gs g).2.2.1 - (gq gs g).2.2.2.2.2.length)) (by assumption), d3 (by omega)]; simp)
                        | (rw [b2i_0 (b := pM (gq gs g).2.2.2.2.2 (gbX S b) (alg (gbX S a) (gbX S b) 0) (lat (alg (gbX S a) (gbX S b) 0) (gq gs g).2.2.1 - (gq gs g).2.2.2.2.2.length)) (by assumption), b2i_0 (b := pM (gq gs g).2.2.2.2.2 (gbX S b) (alg (gbX S a) (gbX S b) 0) (lat (alg (gbX S a) (gbX S b) 0) (gq gs g).2.2.2.1 + 1)) (by assumption)]; simp)
                      have ek : gs.length - g.toNat = (gs.length - (g + 1).toNat) + 1 := by omega
                      have e1 : slpM gs (alg (gbX S a) (gbX S b) 0) (gbX S b) (gs.length - g.toNat) g x = slpM gs (alg (gbX S a) (gbX S b) 0) (gbX S b) (gs.length - (g + 1).toNat) (g + 1) x := by
                        rw [ek]
                        show slpM gs _ _ _ _ (if _ then _ else _) = _
                        rw [if_neg (fun z => hsm z.2)]
                      rw [e1] at hq2
                      exact ih (g + 1) x _ _ _ _ _ _ _ (by omega) (by omega) (by omega) hx9 hq2
                    · refine gX_iconst dX12_slipped_154 ⟨by decide, by decide⟩ ?_
                      refine gX_goto (tgt := 159) dX12_slipped_155 (by decide) ?_
                      refine gX_istore dX12_slipped_159 (show (9 : Nat) < 10 from by decide) (ls2 := [some (ga 775), some (gi a), some (gi b), some (gi x), some (gi g), some (gi ((20 * a) + g)), some (gi ((gq gs g).2.2.1)), some (gi (lat (alg (gbX S a) (gbX S b) 0) (gq gs g).2.2.1)), some (gi (lat (alg (gbX S a) (gbX S b) 0) (gq gs g).2.2.2.1)), some (gi 1)]) rfl ?_
                      refine gX_iloadn dX12_slipped_161 rfl ?_
                      refine gX_iload dX12_slipped_162 rfl ?_
                      refine gX_ifeq (tgt := 174) dX12_slipped_164 (by decide) (fun b15 => by exfalso; omega) (fun b15 => ?_)
                      refine gX_iconst dX12_slipped_167 ⟨by decide, by decide⟩ ?_
                      refine gX_iload dX12_slipped_168 rfl ?_
                      refine gX_ishl dX12_slipped_170 ?_
                      refine gX_goto (tgt := 175) dX12_slipped_171 (by decide) ?_
                      refine gX_ior dX12_slipped_175 ?_
                      refine gX_istoren dX12_slipped_176 (show (3 : Nat) < 10 from by decide) (ls2 := [some (ga 775), some (gi a), some (gi b), some (gi (gor x (gshl 1 g))), some (gi g), some (gi ((20 * a) + g)), some (gi ((gq gs g).2.2.1)), some (gi (lat (alg (gbX S a) (gbX S b) 0) (gq gs g).2.2.1)), some (gi (lat (alg (gbX S a) (gbX S b) 0) (gq gs g).2.2.2.1)), some (gi 1)]) rfl ?_
                      refine gX_iinc dX12_slipped_177 rfl (show (4 : Nat) < 10 from by decide) ⟨by omega, by omega⟩ (ls2 := [some (ga 775), some (gi a), some (gi b), some (gi (gor x (gshl 1 g))), some (gi (g + 1)), some (gi ((20 * a) + g)), some (gi ((gq gs g).2.2.1)), some (gi (lat (alg (gbX S a) (gbX S b) 0) (gq gs g).2.2.1)), some (gi (lat (alg (gbX S a) (gbX S b) 0) (gq gs g).2.2.2.1)), some (gi 1)]) rfl ?_
                      refine gX_goto (tgt := 31) dX12_slipped_180 (by decide) ?_
                      have d1 : lat (alg (gbX S a) (gbX S b) 0) (gq gs g).2.2.1 < 0 → decide (0 ≤ lat (alg (gbX S a) (gbX S b) 0) (gq gs g).2.2.1) = false := fun z => decide_eq_false (by omega)
                      have d2 : 0 ≤ lat (alg (gbX S a) (gbX S b) 0) (gq gs g).2.2.1 → decide (0 ≤ lat (alg (gbX S a) (gbX S b) 0) (gq gs g).2.2.1) = true := fun z => decide_eq_true z
                      have d3 : lat (alg (gbX S a) (gbX S b) 0) (gq gs g).2.2.2.1 < 0 → decide (0 ≤ lat (alg (gbX S a) (gbX S b) 0) (gq gs g).2.2.2.1) = false := fun z => decide_eq_false (by omega)
                      have d4 : 0 ≤ lat (alg (gbX S a) (gbX S b) 0) (gq gs g).2.2.2.1 → decide (0 ≤ lat (alg (gbX S a) (gbX S b) 0) (gq gs g).2.2.2.1) = true := fun z => decide_eq_true z
                      have hsm : hsM (alg (gbX S a) (gbX S b) 0) (gbX S b) (gq gs g) = true := by
                        unfold hsM
                        first
                        | (rw [d2 (by omega), b2i_1 (b := pM (gq gs g).2.2.2.2.2 (gbX S b) (alg (gbX S a) (gbX S b) 0) (lat (alg (gbX S a) (gbX S b) 0) (gq gs g).2.2.1 - (gq gs g).2.2.2.2.2.length)) (by assumption)]; rfl)
                        | (rw [d4 (by omega), b2i_1 (b := pM (gq gs g).2.2.2.2.2 (gbX S b) (alg (gbX S a) (gbX S b) 0) (lat (alg (gbX S a) (gbX S b) 0) (gq gs g).2.2.2.1 + 1)) (by assumption)]; simp)
                      have ek : gs.length - g.toNat = (gs.length - (g + 1).toNat) + 1 := by omega
                      have e1 : slpM gs (alg (gbX S a) (gbX S b) 0) (gbX S b) (gs.length - g.toNat) g x = slpM gs (alg (gbX S a) (gbX S b) 0) (gbX S b) (gs.length - (g + 1).toNat) (g + 1) (gor x (gshl 1 g)) := by
                        rw [ek]
                        show slpM gs _ _ _ _ (if _ then _ else _) = _
                        rw [if_pos ⟨by omega, hsm⟩]
                      rw [e1] at hq2
                      exact ih (g + 1) _ _ _ _ _ _ _ _ (by omega) (by omega) (by omega) (gor_in _ _) hq2
      have hQ2 := hQ hr1 hr2 V1 hf1.q
      rw [← egs] at hQ2
      exact lp (gs.length + 1) 0 0 none none none none none _ _ (by omega) (by omega) (by omega) ⟨by decide, by decide⟩ hQ2
    · have m2 := inR_0 m2
      refine gX_sipush dX12_slipped_16 (by decide) ⟨by decide, by decide⟩ ?_
      refine gX_iret dX12_slipped_19 (Or.inl rfl) ?_
      exact hN (by omega)
end MD11
