/-! The reference: feed, amend; a book's place. Written by wip/whole/tools/mk_md12.py. -/
-- bytes
theorem b255 : ∀ i : Fin 64, (255#64).getLsbD (i : Nat) = decide ((i : Nat) < 8) := by decide +kernel
theorem b255' : ∀ i : Fin 32, (255#32).getLsbD (i : Nat) = decide ((i : Nat) < 8) := by decide +kernel
theorem fd_eq {x : Int} {k : Nat} (hk : k ≤ 7) : gl2i (gland (glshr x (8 * (k : Int))) 255) = gand (gl2i (glushr x (8 * (k : Int)))) 255 := by
  have hk8 : (8 * (k : Int)) = ((8 * k : Nat) : Int) := by omega
  rw [hk8]
  unfold gl2i gland glshr glushr gand
  rw [Int64.ofInt_toInt, Int64.ofInt_toInt, Int32.ofInt_toInt, Int64.ofInt_toInt]
  congr 1
  apply Int32.toBitVec_inj.mp
  rw [Int32.toBitVec_and]
  apply BitVec.eq_of_getLsbD_eq
  intro i hi
  rw [BitVec.getLsbD_and]
  have e1 : ((Int64.ofInt x >>> ((Int32.ofInt ((8 * k : Nat) : Int)).toInt64 &&& 63) &&& Int64.ofInt 255).toInt32).toBitVec.getLsbD i = ((Int64.ofInt x).toBitVec.getLsbD (8 * k + i) && decide (i < 8)) := by
    show ((Int64.ofInt x >>> ((Int32.ofInt ((8 * k : Nat) : Int)).toInt64 &&& 63) &&& Int64.ofInt 255).toBitVec.signExtend 32).getLsbD i = _
    rw [BitVec.getLsbD_signExtend, if_pos (show i < 64 by omega), Int64.toBitVec_and, BitVec.getLsbD_and, Int64.toBitVec_shiftRight]
    have h1 : ((Int64.ofInt x).toBitVec.sshiftRight (((Int32.ofInt ((8 * k : Nat) : Int)).toInt64 &&& 63).toBitVec.smod 64).toNat).getLsbD i = if 8 * k + i < 64 then (Int64.ofInt x).toBitVec.getLsbD (8 * k + i) else (Int64.ofInt x).toBitVec.msb := by
      rw [sh_amt ⟨8 * k, by omega⟩, BitVec.getLsbD_sshiftRight]
      simp only [show ¬ 64 ≤ i by omega, decide_false, Bool.not_false, Bool.true_and]
    have h2 : (Int64.ofInt 255).toBitVec.getLsbD i = decide (i < 8) := b255 ⟨i, by omega⟩
    show (decide (i < 32) && (((Int64.ofInt x).toBitVec.sshiftRight (((Int32.ofInt ((8 * k : Nat) : Int)).toInt64 &&& 63).toBitVec.smod 64).toNat).getLsbD i && (Int64.ofInt 255).toBitVec.getLsbD i)) = _
    rw [h1, h2, decide_eq_true hi, Bool.true_and]
    by_cases c : i < 8
    · rw [if_pos (by omega)]
    · rw [decide_eq_false c, Bool.and_false, Bool.and_false]
  have e2 : ((((Int64.ofInt x).toUInt64 >>> ((Int32.ofInt ((8 * k : Nat) : Int)).toInt64.toUInt64 &&& Int64.toUInt64 63)).toInt64).toInt32).toBitVec.getLsbD i = (Int64.ofInt x).toBitVec.getLsbD (8 * k + i) := by
    show ((((Int64.ofInt x).toUInt64 >>> ((Int32.ofInt ((8 * k : Nat) : Int)).toInt64.toUInt64 &&& Int64.toUInt64 63)).toBitVec).signExtend 32).getLsbD i = _
    rw [BitVec.getLsbD_signExtend, if_pos (show i < 64 by omega), UInt64.toBitVec_shiftRight, decide_eq_true hi, Bool.true_and]
    show ((Int64.ofInt x).toBitVec >>> (((Int32.ofInt ((8 * k : Nat) : Int)).toInt64.toUInt64 &&& Int64.toUInt64 63).toBitVec % 64).toNat).getLsbD i = _
    rw [ush_amt ⟨8 * k, by omega⟩, BitVec.getLsbD_ushiftRight]
  rw [e1, e2]
  have h3 : (Int32.ofInt 255).toBitVec.getLsbD i = decide (i < 8) := b255' ⟨i, hi⟩
  rw [h3]
/-- the cells of a gloss, the cells of a book -/
def glE (V2 : Int → Int → Int) (c : Int) (V : Int → Int → Int) (a : Int) : Prop := V2 780 c = V 780 a ∧ V2 781 c = V 781 a ∧ V2 782 c = V 782 a ∧ V2 783 c = V 783 a ∧ ∀ i : Int, 0 ≤ i → i < 8 → V2 784 (8 * c + i) = V 784 (8 * a + i) ∧ V2 785 (8 * c + i) = V 785 (8 * a + i)
def slE (V2 : Int → Int → Int) (c : Int) (V : Int → Int → Int) (a : Int) : Prop := V2 776 c = V 776 a ∧ (∀ i : Int, 0 ≤ i → i < 40 → V2 777 (40 * c + i) = V 777 (40 * a + i) ∧ V2 778 (40 * c + i) = V 778 (40 * a + i)) ∧ V2 779 c = V 779 a ∧ (∀ g : Int, 0 ≤ g → g < 20 → glE V2 (20 * c + g) V (20 * a + g)) ∧ V2 786 c = V 786 a ∧ V2 787 c = V 787 a ∧ ∀ j : Int, 0 ≤ j → j < 6 → V2 788 (6 * c + j) = V 788 (6 * a + j) ∧ V2 789 (6 * c + j) = V 789 (6 * a + j)
theorem slE.rf (V : Int → Int → Int) (a : Int) : slE V a V a := ⟨rfl, fun _ _ _ => ⟨rfl, rfl⟩, rfl, fun _ _ _ => ⟨rfl, rfl, rfl, rfl, fun _ _ _ => ⟨rfl, rfl⟩⟩, rfl, rfl, fun _ _ _ => ⟨rfl, rfl⟩⟩
theorem glE.trans {V3 V2 V1 : Int → Int → Int} {a b c : Int} (h : glE V3 c V2 b) (h2 : glE V2 b V1 a) : glE V3 c V1 a := ⟨h.1.trans h2.1, h.2.1.trans h2.2.1, h.2.2.1.trans h2.2.2.1, h.2.2.2.1.trans h2.2.2.2.1, fun i i0 i1 => ⟨(h.2.2.2.2 i i0 i1).1.trans (h2.2.2.2.2 i i0 i1).1, (h.2.2.2.2 i i0 i1).2.trans (h2.2.2.2.2 i i0 i1).2⟩⟩
theorem slE.trans {V3 V2 V1 : Int → Int → Int} {a b c : Int} (h : slE V3 c V2 b) (h2 : slE V2 b V1 a) : slE V3 c V1 a := ⟨h.1.trans h2.1, fun i i0 i1 => ⟨(h.2.1 i i0 i1).1.trans (h2.2.1 i i0 i1).1, (h.2.1 i i0 i1).2.trans (h2.2.1 i i0 i1).2⟩, h.2.2.1.trans h2.2.2.1, fun g g0 g1 => (h.2.2.2.1 g g0 g1).trans (h2.2.2.2.1 g g0 g1), h.2.2.2.2.1.trans h2.2.2.2.2.1, h.2.2.2.2.2.1.trans h2.2.2.2.2.2.1, fun j j0 j1 => ⟨(h.2.2.2.2.2.2 j j0 j1).1.trans (h2.2.2.2.2.2.2 j j0 j1).1, (h.2.2.2.2.2.2 j j0 j1).2.trans (h2.2.2.2.2.2.2 j j0 j1).2⟩⟩
theorem rgIs.of {V V2 : Int → Int → Int} {a c : Int} {q : gG} (h : rgIs V a q) (he : glE V2 c V a) : rgIs V2 c q := by
  refine ⟨he.1.trans h.1, he.2.1.trans h.2.1, he.2.2.2.1.trans h.2.2.1, h.2.2.2.1, fun j x hj => ?_⟩
  have hl := (List.getElem?_eq_some_iff.mp hj).1
  have h8 := h.2.2.2.1
  rw [(he.2.2.2.2 j (by omega) (by omega)).1]
  exact h.2.2.2.2 j x hj
theorem rbIs.of {V V2 : Int → Int → Int} {a c : Int} {tx : List Int} {gs : List gG} (h : rbIs V a tx gs) (he : slE V2 c V a) : rbIs V2 c tx gs := by
  refine ⟨he.1.trans h.1, h.2.1, fun j x hj => ?_, he.2.2.1.trans h.2.2.2.1, h.2.2.2.2.1, fun k q hk => ?_⟩
  · have hl := (List.getElem?_eq_some_iff.mp hj).1
    have h40 := h.2.1
    rw [(he.2.1 j (by omega) (by omega)).1]
    exact h.2.2.1 j x hj
  · have hl := (List.getElem?_eq_some_iff.mp hk).1
    have h20 := h.2.2.2.2.1
    exact (h.2.2.2.2.2 k q hk).of (he.2.2.2.1 k (by omega) (by omega))
theorem spA_of {V V2 : Int → Int → Int} {a c : Int} (he : slE V2 c V a) {h i : Int} (h0 : -1 ≤ h ∧ h < 20) (i0 : 0 ≤ i) (i1 : i < 40) (i2 : 0 ≤ h → i < 8) : spA V2 c h i = spA V a h i := by
  unfold spA
  by_cases e : h < 0
  · rw [if_pos e, if_pos e]; exact (he.2.1 i i0 i1).2
  · rw [if_neg e, if_neg e]; exact ((he.2.2.2.1 h (by omega) h0.2).2.2.2.2 i i0 (i2 (by omega))).2
theorem rsIs.of {V V2 : Int → Int → Int} {a c : Int} {tx : List Int} {gs : List gG} (h : rsIs V a tx gs) (hb : rbIs V a tx gs) (he : slE V2 c V a) : rsIs V2 c tx gs := by
  have h20 := hb.2.2.2.2.1
  have key : ∀ x i : Int, hoK gs x → 0 ≤ i → i < (rwL tx gs x).length → spA V2 c x i = spA V a x i := fun x i hx i0 i1 => by
    have hr := hx.rg
    have hs := hb.hs hr
    exact spA_of he ⟨hr.1, by omega⟩ i0 (by omega) (fun z => by have := hs.2.2 z; omega)
  refine ⟨fun g g0 g1 hg => ?_, fun x i hx i0 i1 hn => by rw [key x i hx i0 i1]; exact h.2 x i hx i0 i1 hn⟩
  have e := (he.2.2.2.1 g g0 (by omega)).2.2.1
  rw [e]
  exact ⟨(h.1 g g0 g1 hg).1, fun x i hx i0 i1 => by rw [key x i hx i0 i1]; exact (h.1 g g0 g1 hg).2 x i hx i0 i1⟩
theorem rk1.of {V V2 : Int → Int → Int} {a c : Int} {q : gbB} (h : rk1 V a q) (he : slE V2 c V a) : rk1 V2 c q := ⟨h.1.of he, h.2.1.of h.1 he, he.2.2.2.2.1.trans h.2.2.1, he.2.2.2.2.2.1.trans h.2.2.2.1, fun j j0 j1 => ⟨(he.2.2.2.2.2.2 j j0 j1).1.trans (h.2.2.2.2 j j0 j1).1, (he.2.2.2.2.2.2 j j0 j1).2.trans (h.2.2.2.2 j j0 j1).2⟩⟩
theorem gbq_set {S : gbS} {b c : Int} {q : gbB} {T : List gbH × List Int × Int} (b0 : 0 ≤ b) (b1 : b < S.1.length) (c0 : 0 ≤ c) : gbq (S.1.set b.toNat q, T) c = if c = b then q else gbq S c := by
  unfold gbq
  by_cases e : c = b
  · rw [if_pos e, e]
    show (S.1.set b.toNat q).getD b.toNat gbD = q
    rw [List.getD_eq_getElem?_getD, List.getElem?_set_self (by omega)]
    rfl
  · rw [if_neg e]
    show (S.1.set b.toNat q).getD c.toNat gbD = _
    rw [List.getD_eq_getElem?_getD, List.getD_eq_getElem?_getD, List.getElem?_set_ne (by omega)]
/-- one book changed -/
theorem mdIs.setb {V V' : Int → Int → Int} {S : gbS} (h : mdIs V S) {b : Int} {q : gbB} (b0 : 0 ≤ b) (b1 : b < S.1.length) (hq : rk1 V' b q) (hs : ∀ c : Int, 0 ≤ c → c < 10 → c ≠ b → slE V' c V c) (hf : ∀ a, (790 ≤ a ∧ a ≤ 799) → V' a = V a) (h0 : V' 775 0 = V 775 0) (h1 : V' 775 16 = V 775 16) (h2 : V' 775 17 = V 775 17) : mdIs V' (S.1.set b.toNat q, S.2) := by
  have hn := h.2.1
  refine ⟨by rw [h0]; show V 775 0 = ((S.1.set b.toNat q).length : Int); rw [List.length_set]; exact h.1, by show (S.1.set b.toNat q).length ≤ 10; rw [List.length_set]; exact hn, by rw [h2]; exact h.2.2.1, fun c c0 c1 => ?_, h.2.2.2.2.1, fun x x0 x1 => ?_, ?_⟩
  · have c2 : c < ((S.1.set b.toNat q).length : Int) := c1
    rw [List.length_set] at c2
    rw [gbq_set b0 b1 c0]
    by_cases e : c = b
    · rw [if_pos e, e]; exact hq
    · rw [if_neg e]
      exact (h.2.2.2.1 c c0 c2).of (hs c c0 (by omega) e)
  · have hh := h.2.2.2.2.2.1 x x0 x1
    have e : ghq (S.1.set b.toNat q, S.2) x = ghq S x := rfl
    rw [e]
    unfold rhA at hh ⊢
    rw [hf 793 (by omega), hf 794 (by omega), hf 795 (by omega), hf 796 (by omega), hf 797 (by omega), hf 798 (by omega), hf 799 (by omega)]
    exact hh
  · have ht := h.2.2.2.2.2.2
    unfold tdIs at ht ⊢
    rw [h1, hf 790 (by omega)]
    exact ht
theorem rwLl {tx tx' : List Int} {gs : List gG} (h : tx'.length = tx.length) (x : Int) : (rwL tx' gs x).length = (rwL tx gs x).length := by
  unfold rwL
  split
  · rfl
  · exact h
section MD12
variable {l : Launch} {E : gE} {d : Nat} {K : List gK} {R V : Int → Int → Int} {a b i w n x : Int} {Q : gQ} {S : gbS}
set_option maxRecDepth 4000 in
theorem m_amend (hM : mdK K R) (hS : mdIs V S) (hQ : ∀ V', mdIs V' (aAmend S b i w).2 → gFr V V' 775 819 → Q (some (gi (aAmend S b i w).1)) (K, R, V')) : gC l E (d + 3) iX12_amend [ga 775, gi b, gi i, gi w] (K, R, V) Q := by
  refine gC_of kX12_amend (ls := [some (ga 775), some (gi b), some (gi i), some (gi w), none]) rfl (Nat.le_of_ble_eq_true rfl) ?_
  have hn0 := hS.1
  have hn1 := hS.2.1
  refine gX_aloadn dX12_amend_0 rfl ?_
  refine gX_iloadn dX12_amend_1 rfl ?_
  refine gX_virt (J := iX12_isBook) (av := [gi b]) (a := 775) (st := []) dX12_amend_2 lkX12_371 kX12_isBook vX12_isBook (gFit_m (by decide)) hM.1 rfl rfl (Nat.le_of_ble_eq_true rfl) (Nat.zero_le _) (Nat.zero_le _) rfl ?_
  refine m_isBook hM hS.1 hS.2.1 ?_
  show gX l E _ 5 [some (ga 775), some (gi b), some (gi i), some (gi w), none] [gi (b2i (inR b 0 ((S.1.length : Int) - 1)))] (K, R, V) _ _
  refine gX_ifne (tgt := 12) dX12_amend_5 (by decide) (fun w1 => ?_) (fun w1 => ?_)
  · have w1 := inR_1 w1
    have hr : 0 ≤ b ∧ b < S.1.length := ⟨by omega, by omega⟩
    obtain ⟨q, eq⟩ : ∃ q, q = gbq S b := ⟨_, rfl⟩
    have hk := hS.2.2.2.1 b hr.1 hr.2
    rw [← eq] at hk
    have h40 := hk.1.2.1
    refine gX_iloadn dX12_amend_12 rfl ?_
    refine gX_i2l dX12_amend_13 ?_
    refine gX_lconst (x := 0) dX12_amend_14 (by decide) ⟨by decide, by decide⟩ ?_
    refine gX_aloadn dX12_amend_15 rfl ?_
    refine gX_gR 1 dX12_amend_16 fdX12_7 rfl rfl hM.1 (mR1 hM) ?_
    refine gX_iloadn dX12_amend_19 rfl ?_
    refine gX_iald dX12_amend_20 (mA1 hM) (by omega) (by omega) ?_
    rw [hk.1.1]
    refine gX_iconst dX12_amend_21 ⟨by decide, by decide⟩ ?_
    refine gX_isub dX12_amend_22 ⟨by omega, by omega⟩ ?_
    refine gX_i2l dX12_amend_23 ?_
    refine gX_stat (J := iX12_in) (av := [gl i, gl 0, gl ((q.1.length : Int) - 1)]) (st := []) dX12_amend_24 lkX12_154 kX12_in sX12_in (gFit_m (by decide)) rfl (Nat.le_of_ble_eq_true rfl) (Nat.zero_le _) (Nat.zero_le _) rfl ?_
    refine m_in ?_
    show gX l E _ 27 [some (ga 775), some (gi b), some (gi i), some (gi w), none] [gi (b2i (inR i 0 ((q.1.length : Int) - 1)))] (K, R, V) _ _
    refine gX_ifeq (tgt := 37) dX12_amend_27 (by decide) (fun w2 => ?_) (fun w2 => ?_)
    · have w2 := inR_0 w2
      refine gX_sipush dX12_amend_37 (by decide) ⟨by decide, by decide⟩ ?_
      refine gX_iret dX12_amend_40 (Or.inl rfl) ?_
      have ea : aAmend S b i w = (-1002, S) := by
        unfold aAmend
        rw [if_pos hr, ← eq, if_neg (by omega)]
      rw [ea] at hQ
      exact hQ V hS gFr.rf
    · have w2 := inR_1 w2
      refine gX_iloadn dX12_amend_30 rfl ?_
      refine gX_stat (J := iX12_isWord) (av := [gi w]) (st := []) dX12_amend_31 lkX12_398 kX12_isWord sX12_isWord (gFit_m (by decide)) rfl (Nat.le_of_ble_eq_true rfl) (Nat.zero_le _) (Nat.zero_le _) rfl ?_
      refine m_isWord ?_
      show gX l E _ 34 [some (ga 775), some (gi b), some (gi i), some (gi w), none] [gi (b2i (inR w 0 63))] (K, R, V) _ _
      refine gX_ifne (tgt := 41) dX12_amend_34 (by decide) (fun w3 => ?_) (fun w3 => ?_)
      · have w3 := inR_1 w3
        refine gX_aloadn dX12_amend_41 rfl ?_
        refine gX_gR 2 dX12_amend_42 fdX12_13 rfl rfl hM.1 (mR2 hM) ?_
        refine gX_bipush dX12_amend_45 (by decide) ⟨by decide, by decide⟩ ?_
        refine gX_iloadn dX12_amend_47 rfl ?_
        refine gX_imul dX12_amend_48 ⟨by omega, by omega⟩ ?_
        refine gX_iloadn dX12_amend_49 rfl ?_
        refine gX_iadd dX12_amend_50 ⟨by omega, by omega⟩ ?_
        refine gX_iald dX12_amend_51 (mA2 hM) (by omega) (by omega) ?_
        rw [hk.1.wd (by omega) (by omega)]
        refine gX_istore dX12_amend_52 (show (4 : Nat) < 5 from by decide) (ls2 := [some (ga 775), some (gi b), some (gi i), some (gi w), some (gi (lat q.1 i))]) rfl ?_
        refine gX_aloadn dX12_amend_54 rfl ?_
        refine gX_gR 2 dX12_amend_55 fdX12_13 rfl rfl hM.1 (mR2 hM) ?_
        refine gX_bipush dX12_amend_58 (by decide) ⟨by decide, by decide⟩ ?_
        refine gX_iloadn dX12_amend_60 rfl ?_
        refine gX_imul dX12_amend_61 ⟨by omega, by omega⟩ ?_
        refine gX_iloadn dX12_amend_62 rfl ?_
        refine gX_iadd dX12_amend_63 ⟨by omega, by omega⟩ ?_
        refine gX_iloadn dX12_amend_64 rfl ?_
        refine gX_iast dX12_amend_65 (mA2 hM) (by omega) (by omega) ?_
        refine gX_iload dX12_amend_66 rfl ?_
        refine gX_iret dX12_amend_68 (Or.inl rfl) ?_
        have hlp := lpL q.1 i w
        have hne : ∀ a k, a ≠ 777 → (gup V 777 (40 * b + i) w) a k = V a k := fun a k h => by rw [gup_ne h]
        have hrk : rk1 (gup V 777 (40 * b + i) w) b (lput q.1 i w, q.2) := by
          refine ⟨⟨?_, by show (lput q.1 i w).length ≤ 40; rw [hlp]; exact h40, fun j x hj => ?_, ?_, hk.1.2.2.2.2.1, fun k g hg => ?_⟩, ⟨?_, ?_⟩, ?_, ?_, ?_⟩
          · rw [hne 776 b (by omega), hk.1.1]; show _ = ((lput q.1 i w).length : Int); rw [hlp]
          · have hjl : j < (lput q.1 i w).length := (List.getElem?_eq_some_iff.mp hj).1
            have hx : lat (lput q.1 i w) j = x := by rw [lat_in (by omega) (by omega)]; exact (List.getElem?_eq_some_iff.mp hj).2
            rw [latP (by omega) (by omega) (by omega)] at hx
            by_cases e : (j : Int) = i
            · rw [if_pos e] at hx; rw [e, hx]; exact gup_s
            · rw [if_neg e] at hx; rw [gup_k (by omega), ← hx]; exact hk.1.wd (by omega) (by omega)
          · rw [hne 779 b (by omega)]; exact hk.1.2.2.2.1
          · have hz := hk.1.2.2.2.2.2 k g hg
            unfold rgIs at hz ⊢
            rw [show (gup V 777 (40 * b + i) w) 780 = V 780 from gup_ne (by omega), show (gup V 777 (40 * b + i) w) 781 = V 781 from gup_ne (by omega), show (gup V 777 (40 * b + i) w) 783 = V 783 from gup_ne (by omega), show (gup V 777 (40 * b + i) w) 784 = V 784 from gup_ne (by omega)]
            exact hz
          · intro g g0 g1 hg
            have hz := hk.2.1.1 g g0 g1 hg
            rw [show (gup V 777 (40 * b + i) w) 782 = V 782 from gup_ne (by omega)]
            refine ⟨hz.1, fun h9 i9 hh i0 i1 => ?_⟩
            rw [rwLl hlp] at i1
            unfold spA
            rw [show (gup V 777 (40 * b + i) w) 778 = V 778 from gup_ne (by omega), show (gup V 777 (40 * b + i) w) 785 = V 785 from gup_ne (by omega)]
            exact hz.2 h9 i9 hh i0 i1
          · intro h9 i9 hh i0 i1 hn
            rw [rwLl hlp] at i1
            unfold spA
            rw [show (gup V 777 (40 * b + i) w) 778 = V 778 from gup_ne (by omega), show (gup V 777 (40 * b + i) w) 785 = V 785 from gup_ne (by omega)]
            exact hk.2.1.2 h9 i9 hh i0 i1 hn
          · rw [hne 786 b (by omega)]; exact hk.2.2.1
          · rw [hne 787 b (by omega)]; exact hk.2.2.2.1
          · intro j j0 j1
            rw [hne 788 _ (by omega), hne 789 _ (by omega)]; exact hk.2.2.2.2 j j0 j1
        have ea : aAmend S b i w = (lat q.1 i, (S.1.set b.toNat (lput q.1 i w, q.2), S.2)) := by
          unfold aAmend
          rw [if_pos hr, ← eq, if_pos ⟨by omega, by omega⟩]
        rw [ea] at hQ
        exact hQ _ (hS.setb hr.1 hr.2 hrk (fun c c0 c1 c2 => ⟨by rw [hne 776 c (by omega)], fun i9 z0 z1 => ⟨by rw [gup_k (by omega)], by rw [hne 778 _ (by omega)]⟩, by rw [hne 779 c (by omega)], fun g g0 g1 => ⟨by rw [hne 780 _ (by omega)], by rw [hne 781 _ (by omega)], by rw [hne 782 _ (by omega)], by rw [hne 783 _ (by omega)], fun i9 z0 z1 => ⟨by rw [hne 784 _ (by omega)], by rw [hne 785 _ (by omega)]⟩⟩, by rw [hne 786 c (by omega)], by rw [hne 787 c (by omega)], fun j j0 j1 => ⟨by rw [hne 788 _ (by omega)], by rw [hne 789 _ (by omega)]⟩⟩) (fun a ha => gup_ne (by omega)) (by rw [hne 775 0 (by omega)]) (by rw [hne 775 16 (by omega)]) (by rw [hne 775 17 (by omega)])) (gup_fr (by omega) (by omega))
      · have w3 := inR_0 w3
        refine gX_sipush dX12_amend_37 (by decide) ⟨by decide, by decide⟩ ?_
        refine gX_iret dX12_amend_40 (Or.inl rfl) ?_
        have ea : aAmend S b i w = (-1002, S) := by
          unfold aAmend
          rw [if_pos hr, ← eq, if_neg (by omega)]
        rw [ea] at hQ
        exact hQ V hS gFr.rf
  · have w1 := inR_0 w1
    refine gX_sipush dX12_amend_8 (by decide) ⟨by decide, by decide⟩ ?_
    refine gX_iret dX12_amend_11 (Or.inl rfl) ?_
    have ea : aAmend S b i w = (-1001, S) := by
      unfold aAmend
      rw [if_neg (by omega)]
    rw [ea] at hQ
    exact hQ V hS gFr.rf
set_option maxRecDepth 4000 in
theorem m_feed (hM : mdK K R) (hS : mdIs V S) (hQ : ∀ V', mdIs V' (aFeed S n x).2 → gFr V V' 775 819 → Q (some (gi (aFeed S n x).1)) (K, R, V')) : gC l E (d + 2) iX12_feed [ga 775, gi n, gl x] (K, R, V) Q := by
  refine gC_of kX12_feed (ls := [some (ga 775), some (gi n), some (gl x), none, none]) rfl (Nat.le_of_ble_eq_true rfl) ?_
  have hn0 := hS.1
  have hn1 := hS.2.1
  have ht := hS.2.2.2.2.2.2
  have hyl := ht.2.1
  have lp : ∀ (jj : Nat) (k : Int) (ys : List Int) (V1 : Int → Int → Int) (bc bs : Nat), k + 1 < (jj : Int) → -1 ≤ k → k ≤ 7 → tdIs V1 ys → (ys.length : Int) + (k + 1) ≤ 320 → ((∀ a, a ≠ 775 → a ≠ 790 → V1 a = V a) ∧ ∀ k, k ≠ 16 → V1 775 k = V 775 k) → (∀ V', tdIs V' (ys ++ fdF x (k + 1).toNat) → ((∀ a, a ≠ 775 → a ≠ 790 → V' a = V a) ∧ ∀ k, k ≠ 16 → V' 775 k = V 775 k) → Q (some (gi ((ys ++ fdF x (k + 1).toNat).length))) (K, R, V')) → gX l E (gFm E (d + 2) iX12_feed Q) 37 [some (ga 775), some (gi n), some (gl x), none, some (gi k)] [] (K, R, V1) bc bs := by
    intro jj
    induction jj with
    | zero =>
      intro k ys V1 bc bs hj q0 q1 ht1 q2 hf1 hq2
      exfalso; omega
    | succ jj ih =>
      intro k ys V1 bc bs hj q0 q1 ht1 q2 hf1 hq2
      refine gX_iload dX12_feed_37 rfl ?_
      refine gX_iflt (tgt := 79) dX12_feed_39 (by decide) (fun w1 => ?_) (fun w1 => ?_)
      · refine gX_aloadn dX12_feed_79 rfl ?_
        refine gX_gI 16 dX12_feed_80 fdX12_162 rfl (Or.inl rfl) hM.1 ?_
        rw [ht1.1]
        refine gX_iret dX12_feed_83 (Or.inl rfl) ?_
        have e0 : (k + 1).toNat = 0 := by omega
        rw [e0, show ys ++ fdF x 0 = ys from List.append_nil ys] at hq2
        exact hq2 V1 ht1 hf1
      · refine gX_aloadn dX12_feed_42 rfl ?_
        refine gX_gR 15 dX12_feed_43 fdX12_52 rfl rfl hM.1 (mR15 hM) ?_
        refine gX_aloadn dX12_feed_46 rfl ?_
        refine gX_gI 16 dX12_feed_47 fdX12_162 rfl (Or.inl rfl) hM.1 ?_
        rw [ht1.1]
        refine gX_lloadn dX12_feed_50 rfl ?_
        refine gX_bipush dX12_feed_51 (by decide) ⟨by decide, by decide⟩ ?_
        refine gX_iload dX12_feed_53 rfl ?_
        refine gX_imul dX12_feed_55 ⟨by omega, by omega⟩ ?_
        refine gX_lshr dX12_feed_56 ?_
        refine gX_ldc2 (x := 255) dX12_feed_57 clX12_165 (by decide) ⟨by decide, by decide⟩ ?_
        refine gX_land dX12_feed_60 ?_
        refine gX_l2i dX12_feed_61 ?_
        rw [show gl2i (gland (glshr x (8 * k)) 255) = gand (gl2i (glushr x (8 * k))) 255 by have h := fd_eq (x := x) (k := k.toNat) (by omega); rw [show ((k.toNat : Nat) : Int) = k by omega] at h; exact h]
        refine gX_iast dX12_feed_62 (mA15 hM) (by omega) (by omega) ?_
        refine gX_aloadn dX12_feed_63 rfl ?_
        refine gX_dup dX12_feed_64 rfl ?_
        refine gX_gI 16 dX12_feed_65 fdX12_162 rfl (Or.inl rfl) hM.1 ?_
        rw [show gup V1 790 (ys.length : Int) (gand (gl2i (glushr x (8 * k))) 255) 775 16 = (ys.length : Int) by rw [gup_ne (by omega)]; exact ht1.1]
        refine gX_iconst dX12_feed_68 ⟨by decide, by decide⟩ ?_
        refine gX_iadd dX12_feed_69 ⟨by omega, by omega⟩ ?_
        refine gX_pI 16 dX12_feed_70 fdX12_162 fpX12_162 rfl (Or.inl rfl) hM.1 ?_
        refine gX_iinc dX12_feed_73 rfl (show (4 : Nat) < 5 from by decide) ⟨by omega, by omega⟩ (ls2 := [some (ga 775), some (gi n), some (gl x), none, some (gi (k + (-1)))]) rfl ?_
        refine gX_goto (tgt := 37) dX12_feed_76 (by decide) ?_
        have e0 : (k + 1).toNat = k.toNat + 1 := by omega
        have e1 : ((k.toNat : Nat) : Int) = k := by omega
        have e2 : ys ++ fdF x (k + 1).toNat = (ys ++ [gand (gl2i (glushr x (8 * k))) 255]) ++ fdF x (k + (-1) + 1).toNat := by
          rw [e0, show (k + (-1) + 1).toNat = k.toNat by omega]
          show ys ++ (gand (gl2i (glushr x (8 * ((k.toNat : Nat) : Int)))) 255 :: fdF x k.toNat) = _
          rw [e1, List.append_assoc]
          rfl
        rw [e2] at hq2
        refine ih (k + (-1)) _ _ _ _ (by omega) (by omega) (by omega) ⟨?_, ?_, fun j y hj => ?_⟩ ?_ ⟨fun a h3 h4 => by rw [gup_ne h3, gup_ne h4]; exact hf1.1 a h3 h4, fun k9 hk9 => by rw [gup_k hk9, gup_ne (by omega)]; exact hf1.2 k9 hk9⟩ hq2
        · rw [List.length_append]
          show gup _ 775 16 _ 775 16 = ((ys.length + 1 : Nat) : Int)
          rw [show ((ys.length + 1 : Nat) : Int) = (ys.length : Int) + 1 by omega]
          exact gup_s
        · rw [List.length_append]; show ys.length + 1 ≤ 320; omega
        · rw [gup_ne (by omega)]
          by_cases ej : j < ys.length
          · rw [List.getElem?_append_left ej] at hj
            rw [gup_k (by omega)]; exact ht1.2.2 j y hj
          · rw [List.getElem?_append_right (by omega)] at hj
            by_cases e3 : j - ys.length = 0
            · rw [e3] at hj
              cases hj
              rw [show (j : Int) = ys.length by omega]
              exact gup_s
            · rw [List.getElem?_eq_none (by show 1 ≤ j - ys.length; omega)] at hj; cases hj
        · rw [List.length_append]; show ((ys.length + 1 : Nat) : Int) + (k + (-1) + 1) ≤ 320; omega
  refine gX_iloadn dX12_feed_0 rfl ?_
  refine gX_i2l dX12_feed_1 ?_
  refine gX_lconst (x := 1) dX12_feed_2 (by decide) ⟨by decide, by decide⟩ ?_
  refine gX_ldc2 (x := 8) dX12_feed_3 clX12_160 (by decide) ⟨by decide, by decide⟩ ?_
  refine gX_stat (J := iX12_in) (av := [gl n, gl 1, gl 8]) (st := []) dX12_feed_6 lkX12_154 kX12_in sX12_in (gFit_m (by decide)) rfl (Nat.le_of_ble_eq_true rfl) (Nat.zero_le _) (Nat.zero_le _) rfl ?_
  refine m_in ?_
  show gX l E _ 9 [some (ga 775), some (gi n), some (gl x), none, none] [gi (b2i (inR n 1 8))] (K, R, V) _ _
  refine gX_ifne (tgt := 16) dX12_feed_9 (by decide) (fun m1 => ?_) (fun m1 => ?_)
  · have m1 := inR_1 m1
    refine gX_aloadn dX12_feed_16 rfl ?_
    refine gX_gI 16 dX12_feed_17 fdX12_162 rfl (Or.inl rfl) hM.1 ?_
    rw [ht.1]
    refine gX_iloadn dX12_feed_20 rfl ?_
    refine gX_iadd dX12_feed_21 ⟨by omega, by omega⟩ ?_
    refine gX_sipush dX12_feed_22 (by decide) ⟨by decide, by decide⟩ ?_
    refine gX_icmple (tgt := 32) dX12_feed_25 (by decide) (fun m2 => ?_) (fun m2 => ?_)
    · refine gX_iloadn dX12_feed_32 rfl ?_
      refine gX_iconst dX12_feed_33 ⟨by decide, by decide⟩ ?_
      refine gX_isub dX12_feed_34 ⟨by omega, by omega⟩ ?_
      refine gX_istore dX12_feed_35 (show (4 : Nat) < 5 from by decide) (ls2 := [some (ga 775), some (gi n), some (gl x), none, some (gi (n - 1))]) rfl ?_
      have ea : aFeed S n x = (((S.2.2.1 ++ fdF x n.toNat).length : Int), (S.1, S.2.1, S.2.2.1 ++ fdF x n.toNat, S.2.2.2)) := by
        unfold aFeed
        rw [if_neg (by omega), if_neg (by omega)]
      rw [ea] at hQ
      refine lp 9 (n - 1) S.2.2.1 V _ _ (by omega) (by omega) (by omega) ht (by omega) ⟨fun _ _ _ => rfl, fun _ _ => rfl⟩ ?_
      rw [show (n - 1 + 1).toNat = n.toNat by omega]
      intro V' ht' hf'
      have hf2 : ∀ a, a ≠ 775 → a ≠ 790 → V' a = V a := hf'.1
      refine hQ V' ⟨by rw [hf'.2 0 (by omega)]; exact hS.1, hS.2.1, by rw [hf'.2 17 (by omega)]; exact hS.2.2.1, fun c c0 c1 => ?_, hS.2.2.2.2.1, fun h h0 h1 => ?_, ht'⟩ (fun a ha => hf'.1 a (by omega) (by omega))
      · have hkc := hS.2.2.2.1 c c0 c1
        refine rk1.of hkc ?_
        unfold slE glE
        rw [hf2 776 (by omega) (by omega), hf2 777 (by omega) (by omega), hf2 778 (by omega) (by omega), hf2 779 (by omega) (by omega), hf2 780 (by omega) (by omega), hf2 781 (by omega) (by omega), hf2 782 (by omega) (by omega), hf2 783 (by omega) (by omega), hf2 784 (by omega) (by omega), hf2 785 (by omega) (by omega), hf2 786 (by omega) (by omega), hf2 787 (by omega) (by omega), hf2 788 (by omega) (by omega), hf2 789 (by omega) (by omega)]
        exact slE.rf V c
      · have hh := hS.2.2.2.2.2.1 h h0 h1
        have eg : ghq (S.1, S.2.1, S.2.2.1 ++ fdF x n.toNat, S.2.2.2) h = ghq S h := rfl
        rw [eg]
        unfold rhA at hh ⊢
        rw [hf2 793 (by omega) (by omega), hf2 794 (by omega) (by omega), hf2 795 (by omega) (by omega), hf2 796 (by omega) (by omega), hf2 797 (by omega) (by omega), hf2 798 (by omega) (by omega), hf2 799 (by omega) (by omega)]
        exact hh
    · refine gX_sipush dX12_feed_28 (by decide) ⟨by decide, by decide⟩ ?_
      refine gX_iret dX12_feed_31 (Or.inl rfl) ?_
      have ea : aFeed S n x = (-1004, S) := by
        unfold aFeed
        rw [if_neg (by omega), if_pos (by omega)]
      rw [ea] at hQ
      exact hQ V hS gFr.rf
  · have m1 := inR_0 m1
    refine gX_sipush dX12_feed_12 (by decide) ⟨by decide, by decide⟩ ?_
    refine gX_iret dX12_feed_15 (Or.inl rfl) ?_
    have ea : aFeed S n x = (-1002, S) := by
      unfold aFeed
      rw [if_pos (by omega)]
    rw [ea] at hQ
    exact hQ V hS gFr.rf
end MD12
