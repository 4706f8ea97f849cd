/-! The reference: brackets and bars. Written by wip/whole/tools/mk_md35.py. -/
section MD35
variable {l : Launch} {E : gE} {d : Nat} {K : List gK} {R V : Int → Int → Int} {a st op lf : Int} {Q : gQ} {ys tx : List Int} {gs : List gG} {t : tS}
theorem BI.cs (h : BI V tx gs st op lf) (hp : PI tx gs st op lf) (h20 : gs.length ≤ 20) : (0 ≤ V 775 23 ∧ V 775 23 ≤ 5 ∧ 0 ≤ dpt gs 21 op ∧ V 775 23 = dpt gs 21 op + lmN st) ∧ ((st = 0 ∧ op = -1 ∧ V 775 23 = 0 ∧ isLm st = false ∧ V 775 26 = 0) ∨ (st = 0 ∧ 0 ≤ op ∧ 1 ≤ V 775 23 ∧ V 775 23 ≤ 4 ∧ V 775 27 = 1 ∧ V 775 26 = 0 ∧ V 775 23 = 1 + dpt gs 21 (gq gs op).2.1 ∧ isLm st = false) ∨ (st = 1 ∧ 0 ≤ op ∧ V 775 27 = 0 ∧ V 775 26 = 0 ∧ (1 ≤ V 775 23 ∧ V 775 23 ≤ 4) ∧ isLm st = false) ∨ (st = 2 ∧ V 775 27 = 0 ∧ V 775 26 = 1 ∧ 1 ≤ V 775 23 ∧ isLm st = true) ∨ (st = 3 ∧ V 775 27 = 1 ∧ V 775 26 = 1 ∧ 1 ≤ V 775 23 ∧ V 775 23 = 1 + dpt gs 21 op ∧ isLm st = true)) := by
  obtain ⟨b1, ⟨b2, b3, b4⟩, b5, b6, b7, b8, b9, b10⟩ := h
  obtain ⟨⟨⟨a1, a2⟩, a3, a4⟩, b, c, d, e, f, g, p, u, v⟩ := hp
  have dn := dpt_nn (gs := gs) 21 op
  have d4 : dpt gs 21 op ≤ 4 := by
    by_cases z : 0 ≤ op
    · rw [dpt_21 (f op z a2)]; exact f op z a2
    · have : op = -1 := by omega
      rw [this, dpt_m]; omega
  have dz : op = -1 → dpt gs 21 op = 0 := fun z => by rw [z, dpt_m]
  have d1 : 0 ≤ op → dpt gs 21 op = 1 + dpt gs 21 (gq gs op).2.1 := fun z => dpt_h d h20 z a2
  have dn2 := dpt_nn (gs := gs) 21 (gq gs op).2.1
  rcases a3 with z | z | z | z
  · have l0 : lmN st = 0 := by rw [z]; rfl
    have l1 : isLm st = false := by rw [z]; rfl
    refine ⟨by omega, ?_⟩
    by_cases y : 0 ≤ op
    · have := d1 y
      have := b5.2.2.2.2 z y
      exact Or.inr (Or.inl ⟨z, y, by omega, by omega, by omega, by omega, by omega, l1⟩)
    · have := dz (by omega)
      exact Or.inl ⟨z, by omega, by omega, l1, by omega⟩
  · have l0 : lmN st = 0 := by rw [z]; rfl
    have l1 : isLm st = false := by rw [z]; rfl
    have := b5.2.2.2.1 z
    have := d1 (a4 z)
    exact ⟨by omega, Or.inr (Or.inr (Or.inl ⟨z, a4 z, by omega, by omega, by omega, l1⟩))⟩
  · have l0 : lmN st = 1 := by rw [z]; rfl
    have l1 : isLm st = true := by rw [z]; rfl
    have := b5.2.2.1 z
    exact ⟨by omega, Or.inr (Or.inr (Or.inr (Or.inl ⟨z, by omega, by omega, by omega, l1⟩)))⟩
  · have l0 : lmN st = 1 := by rw [z]; rfl
    have l1 : isLm st = true := by rw [z]; rfl
    have := b5.2.1 z
    exact ⟨by omega, Or.inr (Or.inr (Or.inr (Or.inr ⟨z, by omega, by omega, by omega, by omega, l1⟩)))⟩
theorem sgB (hpk : pkB ys t.1 = t.1) (hc : lat ys t.1 = 91) (hs : st = 0 ∨ st = 1 ∨ st = 2 ∨ st = 3) : rdSign ys 91 (t, tx, gs, st, op, lf) = if isLm st = true then (0, bF 1 t.1 (t, tx, gs, st, op, lf)) else (1, (t.1 + 1, t.2), tx, gs, 2, op, (rwL tx gs op).length) := by
  have e1 : rdS1 91 (t, tx, gs, st, op, lf) = rdOpen (t, tx, gs, st, op, lf) := rfl
  unfold rdSign
  rw [e1]
  by_cases c : isLm st = true
  · have e2 : rdOpen (t, tx, gs, st, op, lf) = (0, bF 1 t.1 (t, tx, gs, st, op, lf)) := if_neg (fun z => by have := isLm_t.mp c; have z : st = 0 ∨ st = 1 := z; omega)
    rw [e2, if_pos c]; rfl
  · have e2 : rdOpen (t, tx, gs, st, op, lf) = ((1, t, tx, gs, 2, op, ((rwL tx gs op).length : Int)) : Int × bR) := if_pos (by show st = 0 ∨ st = 1; have : ¬ (st = 2 ∨ st = 3) := fun z => c (isLm_t.mpr z); omega)
    rw [e2, if_neg c]
    show (if (1 : Int) = 0 then _ else ((tkSig ys 91 t).1, (tkSig ys 91 t).2, _)) = _
    rw [if_neg (by decide)]
    unfold tkSig
    rw [hpk, if_pos hc]
theorem sib_t : sib (t, tx, gs, st, op, lf) = true ↔ (st = 0 ∧ 0 ≤ op ∧ op < gs.length) := by
  unfold sib
  rw [Bool.and_eq_true, decide_eq_true_eq, inGt]
theorem sgE (hpk : pkB ys t.1 = t.1) (hc : lat ys t.1 = 93) (ho : op < gs.length) : rdSign ys 93 (t, tx, gs, st, op, lf) = if st = 0 ∧ 0 ≤ op then (1, (t.1 + 1, t.2), tx, gs, 0, (gq gs op).2.1, lf) else (0, bF 1 t.1 (t, tx, gs, st, op, lf)) := by
  have e1 : rdS1 93 (t, tx, gs, st, op, lf) = rdClose (t, tx, gs, st, op, lf) := rfl
  unfold rdSign
  rw [e1]
  by_cases c : st = 0 ∧ 0 ≤ op
  · have e2 : rdClose (t, tx, gs, st, op, lf) = (1, t, tx, gs, st, (gq gs op).2.1, lf) := if_pos (sib_t.mpr ⟨c.1, c.2, ho⟩)
    rw [e2, if_pos c]
    show (if (1 : Int) = 0 then _ else ((tkSig ys 93 t).1, (tkSig ys 93 t).2, _)) = _
    rw [if_neg (by decide)]
    unfold tkSig
    rw [hpk, if_pos hc, c.1]
  · have e2 : rdClose (t, tx, gs, st, op, lf) = (0, bF 1 t.1 (t, tx, gs, st, op, lf)) := if_neg (fun z => c ⟨(sib_t.mp z).1, (sib_t.mp z).2.1⟩)
    rw [e2, if_neg c]; rfl
/-- a gloss may begin here -/
def okG (gs : List gG) (st op : Int) : Prop := st = 3 ∨ (st = 0 ∧ 0 ≤ op)
theorem sgG (hpk : pkB ys t.1 = t.1) (hc : lat ys t.1 = 124) (ho : op < gs.length) : rdSign ys 124 (t, tx, gs, st, op, lf) = if (st = 3 ∨ (st = 0 ∧ 0 ≤ op)) then (if 20 ≤ gs.length then (0, bF 4 t.1 (t, tx, gs, st, op, lf)) else if 4 ≤ dpt gs 5 (glH (t, tx, gs, st, op, lf)) then (0, bF 5 t.1 (t, tx, gs, st, op, lf)) else (1, (t.1 + 1, t.2), tx, gs ++ [(0, glH (t, tx, gs, st, op, lf), glA (t, tx, gs, st, op, lf), glZ (t, tx, gs, st, op, lf), 0, [])], 4, gs.length, lf)) else (0, bF 1 t.1 (t, tx, gs, st, op, lf)) := by
  have e1 : rdS1 124 (t, tx, gs, st, op, lf) = rdGl (t, tx, gs, st, op, lf) := rfl
  unfold rdSign
  rw [e1]
  by_cases c : st = 3 ∨ (st = 0 ∧ 0 ≤ op)
  · rw [if_pos c]
    have n1 : ¬ (sib (t, tx, gs, st, op, lf) = false ∧ (t, tx, gs, st, op, lf).2.2.2.1 ≠ 3) := fun z => by
      rcases c with y | y
      · exact z.2 y
      · have := sib_t (t := t) (tx := tx) (lf := lf) (gs := gs) (st := st) (op := op) |>.mpr ⟨y.1, y.2, ho⟩
        rw [this] at z; cases z.1
    by_cases c1 : 20 ≤ gs.length
    · have e2 : rdGl (t, tx, gs, st, op, lf) = (0, bF 4 t.1 (t, tx, gs, st, op, lf)) := by unfold rdGl; rw [if_neg n1, if_pos c1]
      rw [e2, if_pos c1]; rfl
    · rw [if_neg c1]
      by_cases c2 : 4 ≤ dpt gs 5 (glH (t, tx, gs, st, op, lf))
      · have e2 : rdGl (t, tx, gs, st, op, lf) = (0, bF 5 t.1 (t, tx, gs, st, op, lf)) := by unfold rdGl; rw [if_neg n1, if_neg c1, if_pos c2]
        rw [e2, if_pos c2]; rfl
      · have e2 : rdGl (t, tx, gs, st, op, lf) = ((1, t, tx, gs ++ [(0, glH (t, tx, gs, st, op, lf), glA (t, tx, gs, st, op, lf), glZ (t, tx, gs, st, op, lf), 0, [])], 4, (gs.length : Int), lf) : Int × bR) := by unfold rdGl; rw [if_neg n1, if_neg c1, if_neg c2]
        rw [e2, if_neg c2]
        show (if (1 : Int) = 0 then _ else ((tkSig ys 124 t).1, (tkSig ys 124 t).2, _)) = _
        rw [if_neg (by decide)]
        unfold tkSig
        rw [hpk, if_pos hc]
  · rw [if_neg c]
    have n1 : (sib (t, tx, gs, st, op, lf) = false ∧ (t, tx, gs, st, op, lf).2.2.2.1 ≠ 3) := ⟨Bool.eq_false_iff.mpr (fun z => c (Or.inr ⟨(sib_t.mp z).1, (sib_t.mp z).2.1⟩)), fun z => c (Or.inl z)⟩
    have e2 : rdGl (t, tx, gs, st, op, lf) = (0, bF 1 t.1 (t, tx, gs, st, op, lf)) := by unfold rdGl; rw [if_pos n1]
    rw [e2]; rfl
theorem glc (ho : op < gs.length) (h : st = 3 ∨ (st = 0 ∧ 0 ≤ op)) : (st = 3 ∧ glH (t, tx, gs, st, op, lf) = op ∧ glA (t, tx, gs, st, op, lf) = lf ∧ glZ (t, tx, gs, st, op, lf) = (rwL tx gs op).length - 1) ∨ (st = 0 ∧ 0 ≤ op ∧ glH (t, tx, gs, st, op, lf) = (gq gs op).2.1 ∧ glA (t, tx, gs, st, op, lf) = (gq gs op).2.2.1 ∧ glZ (t, tx, gs, st, op, lf) = (gq gs op).2.2.2.1) := by
  rcases h with z | z
  · left
    have n : ¬ sib (t, tx, gs, st, op, lf) = true := fun y => by have := (sib_t.mp y).1; omega
    have e1 : glH (t, tx, gs, st, op, lf) = op := if_neg n
    refine ⟨z, e1, if_neg n, ?_⟩
    unfold glZ
    rw [if_neg n, e1]
  · right
    have n := sib_t (t := t) (tx := tx) (lf := lf) |>.mpr ⟨z.1, z.2, ho⟩
    exact ⟨z.1, z.2, if_pos n, if_pos n, if_pos n⟩
theorem rbIs.nx {V V' : Int → Int → Int} (h : rbIs V 10 tx gs) (hf : ∀ a, 776 ≤ a → a ≤ 784 → V' a = V a) : rbIs V' 10 tx gs := by
  unfold rbIs rgIs at h ⊢
  rw [hf 776 (by omega) (by omega), hf 777 (by omega) (by omega), hf 779 (by omega) (by omega), hf 780 (by omega) (by omega), hf 781 (by omega) (by omega), hf 783 (by omega) (by omega), hf 784 (by omega) (by omega)]
  exact h
theorem rbIs.addg {V V' : Int → Int → Int} {kd H A Z : Int} (h : rbIs V 10 tx gs) (hl : gs.length < 20) (h0 : V' 779 10 = gs.length + 1) (h1 : V' 780 (200 + gs.length) = kd ∧ V' 781 (200 + gs.length) = H ∧ V' 783 (200 + gs.length) = 0) (h2 : ∀ k : Int, k ≠ 200 + gs.length → V' 780 k = V 780 k ∧ V' 781 k = V 781 k ∧ V' 783 k = V 783 k) (hf : V' 776 = V 776 ∧ V' 777 = V 777 ∧ V' 784 = V 784) : rbIs V' 10 tx (gs ++ [(kd, H, A, Z, 0, [])]) := by
  refine ⟨by rw [hf.1]; exact h.1, h.2.1, fun j x hx => by rw [hf.2.1]; exact h.2.2.1 j x hx, by rw [h0, List.length_append]; rfl, by rw [List.length_append]; exact hl, fun k q hq => ?_⟩
  by_cases c : k < gs.length
  · rw [List.getElem?_append_left c] at hq
    have g := h.2.2.2.2.2 k q hq
    unfold rgIs at g ⊢
    have e := h2 (20 * 10 + (k : Int)) (by omega)
    rw [e.1, e.2.1, e.2.2, hf.2.2]
    exact g
  · rw [List.getElem?_append_right (by omega)] at hq
    have k1 : k - gs.length = 0 := by
      rcases Nat.eq_zero_or_pos (k - gs.length) with y | y
      · exact y
      · rw [List.getElem?_eq_none (by show ([(kd, H, A, Z, 0, [])] : List gG).length ≤ _; exact y)] at hq; cases hq
    rw [k1] at hq
    cases hq
    have ek : 20 * 10 + (k : Int) = 200 + gs.length := by omega
    unfold rgIs
    rw [ek]
    exact ⟨h1.1, h1.2.1, h1.2.2, Nat.zero_le _, fun j x hx => by cases hx⟩
theorem kiG.ap {kd H A Z : Int} (h : kiG gs) : kiG (gs ++ [(kd, H, A, Z, 0, [])]) := fun g g0 g1 => by
  rw [List.length_append] at g1
  have g1 : g < ((gs.length + 1 : Nat) : Int) := g1
  rw [gq_ap g0 (by omega)]
  split
  · exact Nat.zero_le _
  · exact h g g0 (by omega)
set_option maxRecDepth 4000 in
theorem m_takeBracket (hM : mdK K R) (ht : tdIs V ys) (hB : BI V tx gs st op lf) (hP : PI tx gs st op lf) (hK : kiG gs) (h28 : V 775 28 ≤ t.1) (ha : V 775 18 = t.1) (h0 : 0 ≤ t.1) (h1 : t.1 < ys.length) (hz : t.2.2.1 = 0 ∧ t.2.2.2 = -1 ∧ V 775 17 = -1) (hpk : pkB ys t.1 = t.1) (hc : lat ys t.1 = 91) (hQ : ∀ V', tkF V V' → tkP V' (rdSign ys 91 (t, tx, gs, st, op, lf)) → Q (some (gi (rdSign ys 91 (t, tx, gs, st, op, lf)).2.1.2.2.1)) (K, R, V')) : gC l E (d + 2) iX12_takeBracket [ga 775] (K, R, V) Q := by
  refine gC_of kX12_takeBracket (ls := [some (ga 775)]) rfl (Nat.le_of_ble_eq_true rfl) ?_
  have h20 := hB.1.2.2.2.2.1
  obtain ⟨⟨c0, c1, c2, c3⟩, cs⟩ := hB.cs hP h20
  have ho := hP.1.1
  have hst := hP.1.2.1
  have h320 := ht.2.1
  have h28p := hB.2.2.2.1
  refine gX_aloadn dX12_takeBracket_0 rfl ?_
  refine gX_gI 26 dX12_takeBracket_1 fdX12_200 rfl (Or.inr rfl) hM.1 ?_
  refine gX_ifeq (tgt := 17) dX12_takeBracket_4 (by decide) (fun m1 => ?_) (fun m1 => ?_)
  · refine gX_aloadn dX12_takeBracket_17 rfl ?_
    refine gX_dup dX12_takeBracket_18 rfl ?_
    refine gX_gI 18 dX12_takeBracket_19 fdX12_167 rfl (Or.inl rfl) hM.1 ?_
    rw [ha]
    refine gX_iconst dX12_takeBracket_22 ⟨by decide, by decide⟩ ?_
    refine gX_iadd dX12_takeBracket_23 ⟨by omega, by omega⟩ ?_
    refine gX_pI 18 dX12_takeBracket_24 fdX12_167 fpX12_167 rfl (Or.inl rfl) hM.1 ?_
    refine gX_aloadn dX12_takeBracket_27 rfl ?_
    refine gX_gR 21 dX12_takeBracket_28 fdX12_59 rfl rfl hM.1 (mR21 hM) ?_
    refine gX_aloadn dX12_takeBracket_31 rfl ?_
    refine gX_gI 23 dX12_takeBracket_32 fdX12_214 rfl (Or.inl rfl) hM.1 ?_
    rw [show gup V 775 18 (t.1 + 1) 775 23 = V 775 23 by simp [gup]]
    refine gX_aloadn dX12_takeBracket_35 rfl ?_
    refine gX_gI 24 dX12_takeBracket_36 fdX12_191 rfl (Or.inl rfl) hM.1 ?_
    rw [show gup V 775 18 (t.1 + 1) 775 24 = op by simp [gup]; exact hB.sp.1]
    refine gX_iast dX12_takeBracket_39 (mA21 hM) (by omega) (by omega) ?_
    refine gX_aloadn dX12_takeBracket_40 rfl ?_
    refine gX_aloadn dX12_takeBracket_41 rfl ?_
    refine gX_gI 28 dX12_takeBracket_42 fdX12_217 rfl (Or.inl rfl) hM.1 ?_
    rw [show gup (gup V 775 18 (t.1 + 1)) 791 (V 775 23) op 775 28 = V 775 28 by simp [gup]]
    refine gX_pI 25 dX12_takeBracket_45 fdX12_204 fpX12_204 rfl (Or.inl rfl) hM.1 ?_
    refine gX_aloadn dX12_takeBracket_48 rfl ?_
    refine gX_gR 22 dX12_takeBracket_49 fdX12_62 rfl rfl hM.1 (mR22 hM) ?_
    refine gX_aloadn dX12_takeBracket_52 rfl ?_
    refine gX_gI 23 dX12_takeBracket_53 fdX12_214 rfl (Or.inl rfl) hM.1 ?_
    rw [show gup (gup (gup V 775 18 (t.1 + 1)) 791 (V 775 23) op) 775 25 (V 775 28) 775 23 = V 775 23 by simp [gup]]
    refine gX_aloadn dX12_takeBracket_56 rfl ?_
    refine gX_gI 25 dX12_takeBracket_57 fdX12_204 rfl (Or.inl rfl) hM.1 ?_
    rw [show gup (gup (gup V 775 18 (t.1 + 1)) 791 (V 775 23) op) 775 25 (V 775 28) 775 25 = V 775 28 from gup_s]
    refine gX_iast dX12_takeBracket_60 (mA22 hM) (by omega) (by omega) ?_
    refine gX_aloadn dX12_takeBracket_61 rfl ?_
    refine gX_dup dX12_takeBracket_62 rfl ?_
    refine gX_gI 23 dX12_takeBracket_63 fdX12_214 rfl (Or.inl rfl) hM.1 ?_
    rw [show gup (gup (gup (gup V 775 18 (t.1 + 1)) 791 (V 775 23) op) 775 25 (V 775 28)) 792 (V 775 23) (V 775 28) 775 23 = V 775 23 by simp [gup]]
    refine gX_iconst dX12_takeBracket_66 ⟨by decide, by decide⟩ ?_
    refine gX_iadd dX12_takeBracket_67 ⟨by omega, by omega⟩ ?_
    refine gX_pI 23 dX12_takeBracket_68 fdX12_214 fpX12_214 rfl (Or.inl rfl) hM.1 ?_
    refine gX_aloadn dX12_takeBracket_71 rfl ?_
    refine gX_dup dX12_takeBracket_72 rfl ?_
    refine gX_gI 28 dX12_takeBracket_73 fdX12_217 rfl (Or.inl rfl) hM.1 ?_
    rw [show gup (gup (gup (gup (gup V 775 18 (t.1 + 1)) 791 (V 775 23) op) 775 25 (V 775 28)) 792 (V 775 23) (V 775 28)) 775 23 ((V 775 23) + 1) 775 28 = V 775 28 by simp [gup]]
    refine gX_iconst dX12_takeBracket_76 ⟨by decide, by decide⟩ ?_
    refine gX_iadd dX12_takeBracket_77 ⟨by omega, by omega⟩ ?_
    refine gX_pI 28 dX12_takeBracket_78 fdX12_217 fpX12_217 rfl (Or.inl rfl) hM.1 ?_
    refine gX_aloadn dX12_takeBracket_81 rfl ?_
    refine gX_iconst dX12_takeBracket_82 ⟨by decide, by decide⟩ ?_
    refine gX_pI 26 dX12_takeBracket_83 fdX12_200 fpX12_200 rfl (Or.inr ⟨rfl, Or.inr rfl⟩) hM.1 ?_
    refine gX_aloadn dX12_takeBracket_86 rfl ?_
    refine gX_iconst dX12_takeBracket_87 ⟨by decide, by decide⟩ ?_
    refine gX_pI 27 dX12_takeBracket_88 fdX12_211 fpX12_211 rfl (Or.inr ⟨rfl, Or.inl rfl⟩) hM.1 ?_
    refine gX_iconst dX12_takeBracket_91 ⟨by decide, by decide⟩ ?_
    refine gX_iret dX12_takeBracket_92 (Or.inl rfl) ?_
    have lf9 : isLm st = false := by
      rcases cs with z | z | z | z | z
      · exact z.2.2.2.1
      · exact z.2.2.2.2.2.2.2
      · exact z.2.2.2.2.2
      · exfalso; omega
      · exfalso; omega
    have er := sgB (tx := tx) (gs := gs) (op := op) (lf := lf) hpk hc hst
    rw [if_neg (by rw [lf9]; decide)] at er
    rw [er] at hQ
    have l0 : lmN st = 0 := by have := lmN_cs st; rw [lf9] at this; rcases this with z | z; exact absurd z.1 (by decide); exact z.2
    have e23 : V 775 23 = dpt gs 21 op := by omega
    have e0 : ((1, (t.1 + 1, t.2), tx, gs, 2, op, ((rwL tx gs op).length : Int)) : Int × bR).2.1.2.2.1 = 0 := hz.1
    rw [e0] at hQ
    refine hQ (gup (gup (gup (gup (gup (gup (gup (gup V 775 18 (t.1 + 1)) 791 (V 775 23) op) 775 25 (V 775 28)) 792 (V 775 23) (V 775 28)) 775 23 ((V 775 23) + 1)) 775 28 ((V 775 28) + 1)) 775 26 1) 775 27 0) ((((((((tkF.rf.uf (by omega)).us (by omega)).uf (by omega)).us (by omega)).uf (by omega)).uf (by omega)).uf (by omega)).uf (by omega)) (Or.inr ⟨rfl, hz.1, hz.2.1, ?_, ?_, ?_, hP.brk lf9, hK, ?_⟩)
    · rw [gup_c (Or.inr (by omega)), gup_c (Or.inr (by omega)), gup_c (Or.inr (by omega)), gup_c (Or.inr (by omega)), gup_ne (by omega), gup_c (Or.inr (by omega)), gup_ne (by omega), gup_c (Or.inr (by omega))]; exact hz.2.2
    · rw [gup_c (Or.inr (by omega)), gup_c (Or.inr (by omega)), gup_c (Or.inr (by omega)), gup_c (Or.inr (by omega)), gup_ne (by omega), gup_c (Or.inr (by omega)), gup_ne (by omega)]; exact gup_s
    · refine hB.brk hP h20 lf9 (hB.1.nx (fun a a1 a2 => by repeat rw [gup_ne (by omega)])) ?_ ?_ ?_ ?_ ?_ ?_ (fun k => ?_) (fun k => ?_) (by repeat rw [gup_ne (by omega)]) (fun x i => by unfold spA; rw [gup_ne (by omega), gup_ne (by omega), gup_ne (by omega), gup_ne (by omega), gup_ne (by omega), gup_ne (by omega), gup_ne (by omega), gup_ne (by omega)]; simp only [gup_ne (show (785 : Int) ≠ 775 by omega), gup_ne (show (785 : Int) ≠ 791 by omega), gup_ne (show (785 : Int) ≠ 792 by omega)])
      · rw [gup_c (Or.inr (by omega)), gup_c (Or.inr (by omega)), gup_c (Or.inr (by omega)), ← e23]; exact gup_s
      · rw [gup_c (Or.inr (by omega)), gup_c (Or.inr (by omega)), gup_c (Or.inr (by omega)), gup_c (Or.inr (by omega)), gup_ne (by omega), gup_c (Or.inr (by omega)), gup_ne (by omega), gup_c (Or.inr (by omega))]; exact hB.sp.1
      · rw [gup_c (Or.inr (by omega)), gup_c (Or.inr (by omega)), gup_c (Or.inr (by omega)), gup_c (Or.inr (by omega)), gup_ne (by omega)]; exact gup_s
      · rw [gup_c (Or.inr (by omega))]; exact gup_s
      · exact gup_s
      · rw [gup_c (Or.inr (by omega)), gup_c (Or.inr (by omega))]; exact gup_s
      · rw [gup_ne (by omega), gup_ne (by omega), gup_ne (by omega), gup_ne (by omega), gup_ne (by omega), gup_ne (by omega)]
        by_cases ck : k = dpt gs 21 op
        · rw [if_pos ck, ck, ← e23]; exact gup_s
        · rw [if_neg ck, gup_c (Or.inr (by omega)), gup_ne (by omega)]
      · rw [gup_ne (by omega), gup_ne (by omega), gup_ne (by omega), gup_ne (by omega)]
        by_cases ck : k = dpt gs 21 op
        · rw [if_pos ck, ck, ← e23]; exact gup_s
        · rw [if_neg ck, gup_c (Or.inr (by omega)), gup_ne (by omega), gup_ne (by omega), gup_ne (by omega)]
    · simp [gup]; omega
  · refine gX_aloadn dX12_takeBracket_7 rfl ?_
    refine gX_iconst dX12_takeBracket_8 ⟨by decide, by decide⟩ ?_
    refine gX_aloadn dX12_takeBracket_9 rfl ?_
    refine gX_gI 18 dX12_takeBracket_10 fdX12_167 rfl (Or.inl rfl) hM.1 ?_
    rw [ha]
    refine gX_virt (J := iX12_fails) (av := [gi 1, gi t.1]) (a := 775) (st := []) dX12_takeBracket_13 lkX12_178 kX12_fails vX12_fails (gFit_m (by decide)) hM.1 rfl rfl (Nat.le_of_ble_eq_true rfl) (Nat.zero_le _) (Nat.zero_le _) rfl ?_
    refine m_fails hM ?_
    show gX l E _ 16 [some (ga 775)] [gi 1] (K, R, gup V 775 17 t.1) _ _
    refine gX_iret dX12_takeBracket_16 (Or.inl rfl) ?_
    have lt : isLm st = true := by
      rcases cs with z | z | z | z | z
      · exfalso; omega
      · exfalso; omega
      · exfalso; omega
      · exact z.2.2.2.2
      · exact z.2.2.2.2.2
    have er := sgB (tx := tx) (gs := gs) (op := op) (lf := lf) hpk hc hst
    rw [if_pos lt] at er
    rw [er] at hQ
    exact hQ _ (tkF.rf.uf (by omega)) (Or.inl ⟨rfl, gup_s, by show (0 : Int) < 1; omega⟩)
set_option maxRecDepth 4000 in
theorem m_takeEnd (hM : mdK K R) (ht : tdIs V ys) (hB : BI V tx gs st op lf) (hP : PI tx gs st op lf) (hK : kiG gs) (h28 : V 775 28 ≤ t.1) (ha : V 775 18 = t.1) (h0 : 0 ≤ t.1) (h1 : t.1 < ys.length) (hz : t.2.2.1 = 0 ∧ t.2.2.2 = -1 ∧ V 775 17 = -1) (hpk : pkB ys t.1 = t.1) (hc : lat ys t.1 = 93) (hQ : ∀ V', tkF V V' → tkP V' (rdSign ys 93 (t, tx, gs, st, op, lf)) → Q (some (gi (rdSign ys 93 (t, tx, gs, st, op, lf)).2.1.2.2.1)) (K, R, V')) : gC l E (d + 2) iX12_takeEnd [ga 775] (K, R, V) Q := by
  refine gC_of kX12_takeEnd (ls := [some (ga 775)]) rfl (Nat.le_of_ble_eq_true rfl) ?_
  have h20 := hB.1.2.2.2.2.1
  obtain ⟨⟨c0, c1, c2, c3⟩, cs⟩ := hB.cs hP h20
  have ho := hP.1.1
  have hst := hP.1.2.1
  have h320 := ht.2.1
  have h28p := hB.2.2.2.1
  refine gX_aloadn dX12_takeEnd_0 rfl ?_
  refine gX_gI 23 dX12_takeEnd_1 fdX12_214 rfl (Or.inl rfl) hM.1 ?_
  refine gX_ifeq (tgt := 21) dX12_takeEnd_4 (by decide) (fun m1 => ?_) (fun m1 => ?_)
  · refine gX_aloadn dX12_takeEnd_21 rfl ?_
    refine gX_iconst dX12_takeEnd_22 ⟨by decide, by decide⟩ ?_
    refine gX_aloadn dX12_takeEnd_23 rfl ?_
    refine gX_gI 18 dX12_takeEnd_24 fdX12_167 rfl (Or.inl rfl) hM.1 ?_
    rw [ha]
    refine gX_virt (J := iX12_fails) (av := [gi 1, gi t.1]) (a := 775) (st := []) dX12_takeEnd_27 lkX12_178 kX12_fails vX12_fails (gFit_m (by decide)) hM.1 rfl rfl (Nat.le_of_ble_eq_true rfl) (Nat.zero_le _) (Nat.zero_le _) rfl ?_
    refine m_fails hM ?_
    show gX l E _ 30 [some (ga 775)] [gi 1] (K, R, gup V 775 17 t.1) _ _
    refine gX_iret dX12_takeEnd_30 (Or.inl rfl) ?_
    have er := sgE (tx := tx) (st := st) (lf := lf) hpk hc ho.2
    rw [if_neg (by rcases cs with z | z | z | z | z <;> omega)] at er
    rw [er] at hQ
    exact hQ _ (tkF.rf.uf (by omega)) (Or.inl ⟨rfl, gup_s, by show (0 : Int) < 1; omega⟩)
  · refine gX_aloadn dX12_takeEnd_7 rfl ?_
    refine gX_gI 26 dX12_takeEnd_8 fdX12_200 rfl (Or.inr rfl) hM.1 ?_
    refine gX_ifne (tgt := 21) dX12_takeEnd_11 (by decide) (fun m2 => ?_) (fun m2 => ?_)
    · refine gX_aloadn dX12_takeEnd_21 rfl ?_
      refine gX_iconst dX12_takeEnd_22 ⟨by decide, by decide⟩ ?_
      refine gX_aloadn dX12_takeEnd_23 rfl ?_
      refine gX_gI 18 dX12_takeEnd_24 fdX12_167 rfl (Or.inl rfl) hM.1 ?_
      rw [ha]
      refine gX_virt (J := iX12_fails) (av := [gi 1, gi t.1]) (a := 775) (st := []) dX12_takeEnd_27 lkX12_178 kX12_fails vX12_fails (gFit_m (by decide)) hM.1 rfl rfl (Nat.le_of_ble_eq_true rfl) (Nat.zero_le _) (Nat.zero_le _) rfl ?_
      refine m_fails hM ?_
      show gX l E _ 30 [some (ga 775)] [gi 1] (K, R, gup V 775 17 t.1) _ _
      refine gX_iret dX12_takeEnd_30 (Or.inl rfl) ?_
      have er := sgE (tx := tx) (st := st) (lf := lf) hpk hc ho.2
      rw [if_neg (by rcases cs with z | z | z | z | z <;> omega)] at er
      rw [er] at hQ
      exact hQ _ (tkF.rf.uf (by omega)) (Or.inl ⟨rfl, gup_s, by show (0 : Int) < 1; omega⟩)
    · refine gX_aloadn dX12_takeEnd_14 rfl ?_
      refine gX_gI 27 dX12_takeEnd_15 fdX12_211 rfl (Or.inr rfl) hM.1 ?_
      refine gX_ifne (tgt := 31) dX12_takeEnd_18 (by decide) (fun m3 => ?_) (fun m3 => ?_)
      · refine gX_aloadn dX12_takeEnd_31 rfl ?_
        refine gX_dup dX12_takeEnd_32 rfl ?_
        refine gX_gI 18 dX12_takeEnd_33 fdX12_167 rfl (Or.inl rfl) hM.1 ?_
        rw [ha]
        refine gX_iconst dX12_takeEnd_36 ⟨by decide, by decide⟩ ?_
        refine gX_iadd dX12_takeEnd_37 ⟨by omega, by omega⟩ ?_
        refine gX_pI 18 dX12_takeEnd_38 fdX12_167 fpX12_167 rfl (Or.inl rfl) hM.1 ?_
        refine gX_aloadn dX12_takeEnd_41 rfl ?_
        refine gX_dup dX12_takeEnd_42 rfl ?_
        refine gX_gI 23 dX12_takeEnd_43 fdX12_214 rfl (Or.inl rfl) hM.1 ?_
        rw [show gup V 775 18 (t.1 + 1) 775 23 = V 775 23 by simp [gup]]
        refine gX_iconst dX12_takeEnd_46 ⟨by decide, by decide⟩ ?_
        refine gX_isub dX12_takeEnd_47 ⟨by omega, by omega⟩ ?_
        refine gX_pI 23 dX12_takeEnd_48 fdX12_214 fpX12_214 rfl (Or.inl rfl) hM.1 ?_
        refine gX_aloadn dX12_takeEnd_51 rfl ?_
        refine gX_aloadn dX12_takeEnd_52 rfl ?_
        refine gX_gR 21 dX12_takeEnd_53 fdX12_59 rfl rfl hM.1 (mR21 hM) ?_
        refine gX_aloadn dX12_takeEnd_56 rfl ?_
        refine gX_gI 23 dX12_takeEnd_57 fdX12_214 rfl (Or.inl rfl) hM.1 ?_
        rw [show gup (gup V 775 18 (t.1 + 1)) 775 23 ((V 775 23) - 1) 775 23 = V 775 23 - 1 by simp [gup]]
        refine gX_iald dX12_takeEnd_60 (mA21 hM) (by omega) (by omega) ?_
        have c8 : st = 0 ∧ 0 ≤ op ∧ V 775 23 = dpt gs 21 op := by
          have := lmN_cs st
          rcases cs with z | z | z | z | z
          · exfalso; omega
          · refine ⟨z.1, z.2.1, ?_⟩
            have l0 : lmN st = 0 := by rw [z.1]; rfl
            omega
          · exfalso; omega
          · exfalso; omega
          · exfalso; omega
        have t10 : V 791 (dpt gs 21 op - 1) = (gq gs op).2.1 := (hB.2.2.2.2.2.2.2 0 c8.2.1).1
        rw [show gup (gup V 775 18 (t.1 + 1)) 775 23 ((V 775 23) - 1) 791 (V 775 23 - 1) = (gq gs op).2.1 by rw [gup_ne (by omega), gup_ne (by omega), c8.2.2]; exact t10]
        refine gX_pI 24 dX12_takeEnd_61 fdX12_191 fpX12_191 rfl (Or.inl rfl) hM.1 ?_
        refine gX_aloadn dX12_takeEnd_64 rfl ?_
        refine gX_iconst dX12_takeEnd_65 ⟨by decide, by decide⟩ ?_
        refine gX_pI 26 dX12_takeEnd_66 fdX12_200 fpX12_200 rfl (Or.inr ⟨rfl, Or.inl rfl⟩) hM.1 ?_
        refine gX_aloadn dX12_takeEnd_69 rfl ?_
        refine gX_iconst dX12_takeEnd_70 ⟨by decide, by decide⟩ ?_
        refine gX_pI 27 dX12_takeEnd_71 fdX12_211 fpX12_211 rfl (Or.inr ⟨rfl, Or.inr rfl⟩) hM.1 ?_
        refine gX_iconst dX12_takeEnd_74 ⟨by decide, by decide⟩ ?_
        refine gX_iret dX12_takeEnd_75 (Or.inl rfl) ?_
        have c9 : st = 0 ∧ 0 ≤ op := by rcases cs with z | z | z | z | z <;> omega
        have er := sgE (tx := tx) (st := st) (lf := lf) hpk hc ho.2
        rw [if_pos c9] at er
        rw [er] at hQ
        obtain ⟨s9, o9⟩ := c9
        subst s9
        have e0 : ((1, (t.1 + 1, t.2), tx, gs, 0, (gq gs op).2.1, lf) : Int × bR).2.1.2.2.1 = 0 := hz.1
        rw [e0] at hQ
        refine hQ (gup (gup (gup (gup (gup V 775 18 (t.1 + 1)) 775 23 ((V 775 23) - 1)) 775 24 ((gq gs op).2.1)) 775 26 0) 775 27 1) (((((tkF.rf.uf (by omega)).uf (by omega)).uf (by omega)).uf (by omega)).uf (by omega)) (Or.inr ⟨rfl, hz.1, hz.2.1, ?_, ?_, ?_, hP.fin o9, hK, ?_⟩)
        · simp [gup]; exact hz.2.2
        · simp [gup]
        · refine hB.fin hP h20 o9 (hB.1.nx (fun a a1 a2 => by repeat rw [gup_ne (by omega)])) (by simp [gup]) ?_ (by simp [gup]) (by simp [gup]) (by simp [gup]) (by repeat rw [gup_ne (by omega)]) (by repeat rw [gup_ne (by omega)]) (by repeat rw [gup_ne (by omega)]) (fun x i => by unfold spA; rw [gup_ne (by omega), gup_ne (by omega), gup_ne (by omega), gup_ne (by omega), gup_ne (by omega)]; simp only [gup_ne (show (785 : Int) ≠ 775 by omega)])
          simp [gup]
        · simp [gup]; omega
      · refine gX_aloadn dX12_takeEnd_21 rfl ?_
        refine gX_iconst dX12_takeEnd_22 ⟨by decide, by decide⟩ ?_
        refine gX_aloadn dX12_takeEnd_23 rfl ?_
        refine gX_gI 18 dX12_takeEnd_24 fdX12_167 rfl (Or.inl rfl) hM.1 ?_
        rw [ha]
        refine gX_virt (J := iX12_fails) (av := [gi 1, gi t.1]) (a := 775) (st := []) dX12_takeEnd_27 lkX12_178 kX12_fails vX12_fails (gFit_m (by decide)) hM.1 rfl rfl (Nat.le_of_ble_eq_true rfl) (Nat.zero_le _) (Nat.zero_le _) rfl ?_
        refine m_fails hM ?_
        show gX l E _ 30 [some (ga 775)] [gi 1] (K, R, gup V 775 17 t.1) _ _
        refine gX_iret dX12_takeEnd_30 (Or.inl rfl) ?_
        have er := sgE (tx := tx) (st := st) (lf := lf) hpk hc ho.2
        rw [if_neg (by rcases cs with z | z | z | z | z <;> omega)] at er
        rw [er] at hQ
        exact hQ _ (tkF.rf.uf (by omega)) (Or.inl ⟨rfl, gup_s, by show (0 : Int) < 1; omega⟩)
/-- what a bar and its letter leave -/
def bar3 (V' : Int → Int → Int) (ys : List Int) (t : tS) (tx : List Int) (gs : List gG) (st op lf f : Int) : Prop := ((rdSign ys 124 (t, tx, gs, st, op, lf)).1 = 0 ∧ V' 775 17 = (rdSign ys 124 (t, tx, gs, st, op, lf)).2.1.2.2.2 ∧ f = (rdSign ys 124 (t, tx, gs, st, op, lf)).2.1.2.2.1 ∧ 0 < f) ∨ ((rdSign ys 124 (t, tx, gs, st, op, lf)).1 = 1 ∧ f = 1 ∧ (lat ys (pkB ys (t.1 + 1))) ≠ 97 ∧ (lat ys (pkB ys (t.1 + 1))) ≠ 98 ∧ V' 775 17 = pkB ys (t.1 + 1)) ∨ ((rdSign ys 124 (t, tx, gs, st, op, lf)).1 = 1 ∧ f = 0 ∧ ((lat ys (pkB ys (t.1 + 1))) = 97 ∨ (lat ys (pkB ys (t.1 + 1))) = 98) ∧ V' 775 17 = -1 ∧ V' 775 18 = pkB ys (t.1 + 1) + 1 ∧ BI V' tx (gs ++ [((lat ys (pkB ys (t.1 + 1))) - 97, (glH (t, tx, gs, st, op, lf)), (glA (t, tx, gs, st, op, lf)), (glZ (t, tx, gs, st, op, lf)), 0, [])]) 1 gs.length lf ∧ PI tx (gs ++ [((lat ys (pkB ys (t.1 + 1))) - 97, (glH (t, tx, gs, st, op, lf)), (glA (t, tx, gs, st, op, lf)), (glZ (t, tx, gs, st, op, lf)), 0, [])]) 1 gs.length lf ∧ kiG (gs ++ [((lat ys (pkB ys (t.1 + 1))) - 97, (glH (t, tx, gs, st, op, lf)), (glA (t, tx, gs, st, op, lf)), (glZ (t, tx, gs, st, op, lf)), 0, [])]) ∧ V' 775 28 ≤ pkB ys (t.1 + 1) + 1)
set_option maxRecDepth 4000 in
theorem m_takeBar (hM : mdK K R) (ht : tdIs V ys) (hB : BI V tx gs st op lf) (hP : PI tx gs st op lf) (hK : kiG gs) (h28 : V 775 28 ≤ t.1) (ha : V 775 18 = t.1) (h0 : 0 ≤ t.1) (h1 : t.1 < ys.length) (hz : t.2.2.1 = 0 ∧ t.2.2.2 = -1 ∧ V 775 17 = -1) (hpk : pkB ys t.1 = t.1) (hc : lat ys t.1 = 124) (hQ : ∀ V' f, tkF V V' → bar3 V' ys t tx gs st op lf f → Q (some (gi f)) (K, R, V')) : gC l E (d + 2) iX12_takeBar [ga 775] (K, R, V) Q := by
  refine gC_of kX12_takeBar (ls := [some (ga 775), none, none]) rfl (Nat.le_of_ble_eq_true rfl) ?_
  have h20 := hB.1.2.2.2.2.1
  obtain ⟨⟨c0, c1, c2, c3⟩, cs⟩ := hB.cs hP h20
  have ho := hP.1.1
  have hst := hP.1.2.1
  have h320 := ht.2.1
  have h28p := hB.2.2.2.1
  have h27b := hB.2.2.1.1
  refine gX_aloadn dX12_takeBar_0 rfl ?_
  refine gX_gI 23 dX12_takeBar_1 fdX12_214 rfl (Or.inl rfl) hM.1 ?_
  refine gX_ifeq (tgt := 14) dX12_takeBar_4 (by decide) (fun m1 => ?_) (fun m1 => ?_)
  · refine gX_aloadn dX12_takeBar_14 rfl ?_
    refine gX_iconst dX12_takeBar_15 ⟨by decide, by decide⟩ ?_
    refine gX_aloadn dX12_takeBar_16 rfl ?_
    refine gX_gI 18 dX12_takeBar_17 fdX12_167 rfl (Or.inl rfl) hM.1 ?_
    rw [ha]
    refine gX_virt (J := iX12_fails) (av := [gi 1, gi t.1]) (a := 775) (st := []) dX12_takeBar_20 lkX12_178 kX12_fails vX12_fails (gFit_m (by decide)) hM.1 rfl rfl (Nat.le_of_ble_eq_true rfl) (Nat.zero_le _) (Nat.zero_le _) rfl ?_
    refine m_fails hM ?_
    show gX l E _ 23 [some (ga 775), none, none] [gi 1] (K, R, gup V 775 17 t.1) _ _
    refine gX_iret dX12_takeBar_23 (Or.inl rfl) ?_
    have er := sgG (tx := tx) (st := st) (lf := lf) hpk hc ho.2
    rw [if_neg (by rcases cs with z | z | z | z | z <;> omega)] at er
    refine hQ _ _ (tkF.rf.uf (by omega)) (Or.inl ?_)
    rw [er]
    exact ⟨rfl, gup_s, rfl, by omega⟩
  · refine gX_aloadn dX12_takeBar_7 rfl ?_
    refine gX_gI 27 dX12_takeBar_8 fdX12_211 rfl (Or.inr rfl) hM.1 ?_
    refine gX_ifne (tgt := 24) dX12_takeBar_11 (by decide) (fun m2 => ?_) (fun m2 => ?_)
    · have okg : st = 3 ∨ (st = 0 ∧ 0 ≤ op) := by rcases cs with z | z | z | z | z <;> omega
      have hdp : 4 ≤ dpt gs 5 (glH (t, tx, gs, st, op, lf)) ↔ 4 < V 775 23 := by
        have hgl := glc (t := t) (tx := tx) (lf := lf) ho.2 okg
        have d5 : dpt gs 5 (glH (t, tx, gs, st, op, lf)) = dpt gs 21 (glH (t, tx, gs, st, op, lf)) := by
          by_cases z : 0 ≤ (glH (t, tx, gs, st, op, lf)) ∧ (glH (t, tx, gs, st, op, lf)) < gs.length
          · exact (dpt_21 (hP.2.2.2.2.2.1 _ z.1 z.2)).symm
          · rw [show dpt gs 5 (glH (t, tx, gs, st, op, lf)) = 0 from if_neg z, show dpt gs 21 (glH (t, tx, gs, st, op, lf)) = 0 from if_neg z]
        rw [d5]
        rcases hgl with z | z
        · rw [z.2.1]; rcases cs with y | y | y | y | y <;> omega
        · rw [z.2.2.1]; rcases cs with y | y | y | y | y <;> omega
      refine gX_aloadn dX12_takeBar_24 rfl ?_
      refine gX_gR 4 dX12_takeBar_25 fdX12_19 rfl rfl hM.1 (mR4 hM) ?_
      refine gX_bipush dX12_takeBar_28 (by decide) ⟨by decide, by decide⟩ ?_
      refine gX_iald dX12_takeBar_30 (mA4 hM) (by omega) (by omega) ?_
      rw [hB.1.2.2.2.1]
      refine gX_bipush dX12_takeBar_31 (by decide) ⟨by decide, by decide⟩ ?_
      refine gX_icmpeq (tgt := 44) dX12_takeBar_33 (by decide) (fun m3 => ?_) (fun m3 => ?_)
      · refine gX_aloadn dX12_takeBar_44 rfl ?_
        refine gX_aloadn dX12_takeBar_45 rfl ?_
        refine gX_gR 4 dX12_takeBar_46 fdX12_19 rfl rfl hM.1 (mR4 hM) ?_
        refine gX_bipush dX12_takeBar_49 (by decide) ⟨by decide, by decide⟩ ?_
        refine gX_iald dX12_takeBar_51 (mA4 hM) (by omega) (by omega) ?_
        rw [hB.1.2.2.2.1]
        refine gX_bipush dX12_takeBar_52 (by decide) ⟨by decide, by decide⟩ ?_
        refine gX_icmpne (tgt := 61) dX12_takeBar_54 (by decide) (fun m4 => ?_) (fun m4 => ?_)
        · refine gX_iconst dX12_takeBar_61 ⟨by decide, by decide⟩ ?_
          refine gX_aloadn dX12_takeBar_62 rfl ?_
          refine gX_gI 18 dX12_takeBar_63 fdX12_167 rfl (Or.inl rfl) hM.1 ?_
          rw [ha]
          refine gX_virt (J := iX12_fails) (av := [gi 5, gi t.1]) (a := 775) (st := []) dX12_takeBar_66 lkX12_178 kX12_fails vX12_fails (gFit_m (by decide)) hM.1 rfl rfl (Nat.le_of_ble_eq_true rfl) (Nat.zero_le _) (Nat.zero_le _) rfl ?_
          refine m_fails hM ?_
          show gX l E _ 69 [some (ga 775), none, none] [gi 5] (K, R, gup V 775 17 t.1) _ _
          refine gX_iret dX12_takeBar_69 (Or.inl rfl) ?_
          have er := sgG (tx := tx) (st := st) (lf := lf) hpk hc ho.2
          rw [if_pos okg] at er
          refine hQ _ _ (tkF.rf.uf (by omega)) (Or.inl ?_)
          first
          | (rw [if_pos (show 20 ≤ gs.length by omega)] at er; rw [er]; exact ⟨rfl, gup_s, rfl, by omega⟩)
          | (rw [if_neg (show ¬ 20 ≤ gs.length by omega), if_pos (hdp.mpr (by omega))] at er; rw [er]; exact ⟨rfl, gup_s, rfl, by omega⟩)
          | (exfalso; omega)
        · refine gX_iconst dX12_takeBar_57 ⟨by decide, by decide⟩ ?_
          refine gX_goto (tgt := 62) dX12_takeBar_58 (by decide) ?_
          refine gX_aloadn dX12_takeBar_62 rfl ?_
          refine gX_gI 18 dX12_takeBar_63 fdX12_167 rfl (Or.inl rfl) hM.1 ?_
          rw [ha]
          refine gX_virt (J := iX12_fails) (av := [gi 4, gi t.1]) (a := 775) (st := []) dX12_takeBar_66 lkX12_178 kX12_fails vX12_fails (gFit_m (by decide)) hM.1 rfl rfl (Nat.le_of_ble_eq_true rfl) (Nat.zero_le _) (Nat.zero_le _) rfl ?_
          refine m_fails hM ?_
          show gX l E _ 69 [some (ga 775), none, none] [gi 4] (K, R, gup V 775 17 t.1) _ _
          refine gX_iret dX12_takeBar_69 (Or.inl rfl) ?_
          have er := sgG (tx := tx) (st := st) (lf := lf) hpk hc ho.2
          rw [if_pos okg] at er
          refine hQ _ _ (tkF.rf.uf (by omega)) (Or.inl ?_)
          first
          | (rw [if_pos (show 20 ≤ gs.length by omega)] at er; rw [er]; exact ⟨rfl, gup_s, rfl, by omega⟩)
          | (rw [if_neg (show ¬ 20 ≤ gs.length by omega), if_pos (hdp.mpr (by omega))] at er; rw [er]; exact ⟨rfl, gup_s, rfl, by omega⟩)
          | (exfalso; omega)
      · refine gX_aloadn dX12_takeBar_36 rfl ?_
        refine gX_gI 23 dX12_takeBar_37 fdX12_214 rfl (Or.inl rfl) hM.1 ?_
        refine gX_iconst dX12_takeBar_40 ⟨by decide, by decide⟩ ?_
        refine gX_icmple (tgt := 70) dX12_takeBar_41 (by decide) (fun m5 => ?_) (fun m5 => ?_)
        · refine gX_aloadn dX12_takeBar_70 rfl ?_
          refine gX_dup dX12_takeBar_71 rfl ?_
          refine gX_gI 18 dX12_takeBar_72 fdX12_167 rfl (Or.inl rfl) hM.1 ?_
          rw [ha]
          refine gX_iconst dX12_takeBar_75 ⟨by decide, by decide⟩ ?_
          refine gX_iadd dX12_takeBar_76 ⟨by omega, by omega⟩ ?_
          refine gX_pI 18 dX12_takeBar_77 fdX12_167 fpX12_167 rfl (Or.inl rfl) hM.1 ?_
          have ht1 : tdIs (gup V 775 18 (t.1 + 1)) ys := ht.tk (tkF.rf.uf (by omega))
          have hpi := pkB_in (ys := ys) (a := t.1 + 1) (by omega) (by omega)
          refine gX_aloadn dX12_takeBar_80 rfl ?_
          refine gX_virt (J := iX12_here) (av := []) (a := 775) (st := []) dX12_takeBar_81 lkX12_170 kX12_here vX12_here (gFit_m (by decide)) hM.1 rfl rfl (Nat.le_of_ble_eq_true rfl) (Nat.zero_le _) (Nat.zero_le _) rfl ?_
          refine m_here (a0 := t.1 + 1) hM ht1 gup_s (by omega) (by omega) (fun V1 e18 hf1 => ?_)
          show gX l E _ 84 [some (ga 775), none, none] [gi (lat ys (pkB ys (t.1 + 1)))] (K, R, V1) _ _
          refine gX_istoren dX12_takeBar_84 (show (1 : Nat) < 3 from by decide) (ls2 := [some (ga 775), some (gi (lat ys (pkB ys (t.1 + 1)))), none]) rfl ?_
          have hf1t : tkF (gup V 775 18 (t.1 + 1)) V1 := fun a k a1 a2 a3 a4 => by
            by_cases c : a = 775
            · subst c; exact hf1.2 k (by omega)
            · rw [hf1.1 a c]
          have h779 : V1 779 10 = (gs.length : Int) := by rw [hf1.1 779 (by omega), gup_ne (by omega)]; exact hB.1.2.2.2.1
          have h231 : V1 775 23 = V 775 23 := by rw [hf1.2 23 (by omega), gup_c (Or.inr (by omega))]
          have h791 : V1 791 = V 791 := by rw [hf1.1 791 (by omega), gup_ne (by omega)]
          have h792 : V1 792 = V 792 := by rw [hf1.1 792 (by omega), gup_ne (by omega)]
          have htop : V 791 (V 775 23 - 1) = (glH (t, tx, gs, st, op, lf)) := by
            have hgl := glc (t := t) (tx := tx) (lf := lf) ho.2 okg
            rcases hgl with z | z
            · rw [z.2.1]; have := (hB.2.2.2.2.2.2.1 (isLm_t.mpr (Or.inr z.1))).2.2.2.1; rw [show V 775 23 - 1 = dpt gs 21 op by rcases cs with y | y | y | y | y <;> omega]; exact this
            · rw [z.2.2.1]; have := (hB.2.2.2.2.2.2.2 0 z.2.1).1; have l0 : lmN st = 0 := by rw [z.1]; rfl
              rw [show V 775 23 - 1 = dpt gs 21 op - 1 by omega]; exact this
          refine gX_iloadn dX12_takeBar_85 rfl ?_
          refine gX_bipush dX12_takeBar_86 (by decide) ⟨by decide, by decide⟩ ?_
          refine gX_icmpeq (tgt := 107) dX12_takeBar_88 (by decide) (fun m6 => ?_) (fun m6 => ?_)
          · refine gX_aloadn dX12_takeBar_107 rfl ?_
            refine gX_dup dX12_takeBar_108 rfl ?_
            refine gX_gI 18 dX12_takeBar_109 fdX12_167 rfl (Or.inl rfl) hM.1 ?_
            rw [e18]
            refine gX_iconst dX12_takeBar_112 ⟨by decide, by decide⟩ ?_
            refine gX_iadd dX12_takeBar_113 ⟨by omega, by omega⟩ ?_
            refine gX_pI 18 dX12_takeBar_114 fdX12_167 fpX12_167 rfl (Or.inl rfl) hM.1 ?_
            refine gX_sipush dX12_takeBar_117 (by decide) ⟨by decide, by decide⟩ ?_
            refine gX_aloadn dX12_takeBar_120 rfl ?_
            refine gX_gR 4 dX12_takeBar_121 fdX12_19 rfl rfl hM.1 (mR4 hM) ?_
            refine gX_bipush dX12_takeBar_124 (by decide) ⟨by decide, by decide⟩ ?_
            refine gX_iald dX12_takeBar_126 (mA4 hM) (by omega) (by omega) ?_
            rw [show gup V1 775 18 ((pkB ys (t.1 + 1)) + 1) 779 10 = (gs.length : Int) by simp [gup]; exact h779]
            refine gX_iadd dX12_takeBar_127 ⟨by omega, by omega⟩ ?_
            refine gX_istoren dX12_takeBar_128 (show (2 : Nat) < 3 from by decide) (ls2 := [some (ga 775), some (gi (lat ys (pkB ys (t.1 + 1)))), some (gi (200 + (gs.length : Int)))]) rfl ?_
            refine gX_aloadn dX12_takeBar_129 rfl ?_
            refine gX_gR 5 dX12_takeBar_130 fdX12_22 rfl rfl hM.1 (mR5 hM) ?_
            refine gX_iloadn dX12_takeBar_133 rfl ?_
            refine gX_iloadn dX12_takeBar_134 rfl ?_
            refine gX_bipush dX12_takeBar_135 (by decide) ⟨by decide, by decide⟩ ?_
            refine gX_icmpne (tgt := 144) dX12_takeBar_137 (by decide) (fun m7 => ?_) (fun m7 => ?_)
            · refine gX_iconst dX12_takeBar_144 ⟨by decide, by decide⟩ ?_
              refine gX_iast dX12_takeBar_145 (mA5 hM) (by omega) (by omega) ?_
              refine gX_aloadn dX12_takeBar_146 rfl ?_
              refine gX_gR 6 dX12_takeBar_147 fdX12_25 rfl rfl hM.1 (mR6 hM) ?_
              refine gX_iloadn dX12_takeBar_150 rfl ?_
              refine gX_aloadn dX12_takeBar_151 rfl ?_
              refine gX_gR 21 dX12_takeBar_152 fdX12_59 rfl rfl hM.1 (mR21 hM) ?_
              refine gX_aloadn dX12_takeBar_155 rfl ?_
              refine gX_gI 23 dX12_takeBar_156 fdX12_214 rfl (Or.inl rfl) hM.1 ?_
              rw [show gup (gup V1 775 18 ((pkB ys (t.1 + 1)) + 1)) 780 (200 + (gs.length : Int)) 1 775 23 = V 775 23 by simp [gup]; exact h231]
              refine gX_iconst dX12_takeBar_159 ⟨by decide, by decide⟩ ?_
              refine gX_isub dX12_takeBar_160 ⟨by omega, by omega⟩ ?_
              refine gX_iald dX12_takeBar_161 (mA21 hM) (by omega) (by omega) ?_
              rw [show gup (gup V1 775 18 ((pkB ys (t.1 + 1)) + 1)) 780 (200 + (gs.length : Int)) 1 791 (V 775 23 - 1) = V 791 (V 775 23 - 1) by simp [gup]; rw [h791]]
              refine gX_iast dX12_takeBar_162 (mA6 hM) (by omega) (by omega) ?_
              refine gX_aloadn dX12_takeBar_163 rfl ?_
              refine gX_gR 7 dX12_takeBar_164 fdX12_28 rfl rfl hM.1 (mR7 hM) ?_
              refine gX_iloadn dX12_takeBar_167 rfl ?_
              refine gX_aloadn dX12_takeBar_168 rfl ?_
              refine gX_gR 22 dX12_takeBar_169 fdX12_62 rfl rfl hM.1 (mR22 hM) ?_
              refine gX_aloadn dX12_takeBar_172 rfl ?_
              refine gX_gI 23 dX12_takeBar_173 fdX12_214 rfl (Or.inl rfl) hM.1 ?_
              rw [show gup (gup (gup V1 775 18 ((pkB ys (t.1 + 1)) + 1)) 780 (200 + (gs.length : Int)) 1) 781 (200 + (gs.length : Int)) (V 791 (V 775 23 - 1)) 775 23 = V 775 23 by simp [gup]; exact h231]
              refine gX_iconst dX12_takeBar_176 ⟨by decide, by decide⟩ ?_
              refine gX_isub dX12_takeBar_177 ⟨by omega, by omega⟩ ?_
              refine gX_iald dX12_takeBar_178 (mA22 hM) (by omega) (by omega) ?_
              rw [show gup (gup (gup V1 775 18 ((pkB ys (t.1 + 1)) + 1)) 780 (200 + (gs.length : Int)) 1) 781 (200 + (gs.length : Int)) (V 791 (V 775 23 - 1)) 792 (V 775 23 - 1) = V 792 (V 775 23 - 1) by simp [gup]; rw [h792]]
              refine gX_iast dX12_takeBar_179 (mA7 hM) (by omega) (by omega) ?_
              refine gX_aloadn dX12_takeBar_180 rfl ?_
              refine gX_gR 8 dX12_takeBar_181 fdX12_31 rfl rfl hM.1 (mR8 hM) ?_
              refine gX_iloadn dX12_takeBar_184 rfl ?_
              refine gX_iconst dX12_takeBar_185 ⟨by decide, by decide⟩ ?_
              refine gX_iast dX12_takeBar_186 (mA8 hM) (by omega) (by omega) ?_
              refine gX_aloadn dX12_takeBar_187 rfl ?_
              refine gX_aloadn dX12_takeBar_188 rfl ?_
              refine gX_gR 4 dX12_takeBar_189 fdX12_19 rfl rfl hM.1 (mR4 hM) ?_
              refine gX_bipush dX12_takeBar_192 (by decide) ⟨by decide, by decide⟩ ?_
              refine gX_iald dX12_takeBar_194 (mA4 hM) (by omega) (by omega) ?_
              rw [show gup (gup (gup (gup (gup V1 775 18 ((pkB ys (t.1 + 1)) + 1)) 780 (200 + (gs.length : Int)) 1) 781 (200 + (gs.length : Int)) (V 791 (V 775 23 - 1))) 782 (200 + (gs.length : Int)) (V 792 (V 775 23 - 1))) 783 (200 + (gs.length : Int)) 0 779 10 = (gs.length : Int) by simp [gup]; exact h779]
              refine gX_pI 24 dX12_takeBar_195 fdX12_191 fpX12_191 rfl (Or.inl rfl) hM.1 ?_
              refine gX_aloadn dX12_takeBar_198 rfl ?_
              refine gX_gR 4 dX12_takeBar_199 fdX12_19 rfl rfl hM.1 (mR4 hM) ?_
              refine gX_bipush dX12_takeBar_202 (by decide) ⟨by decide, by decide⟩ ?_
              refine gX_dup2 dX12_takeBar_204 rfl rfl ?_
              refine gX_iald dX12_takeBar_205 (mA4 hM) (by omega) (by omega) ?_
              rw [show gup (gup (gup (gup (gup (gup V1 775 18 ((pkB ys (t.1 + 1)) + 1)) 780 (200 + (gs.length : Int)) 1) 781 (200 + (gs.length : Int)) (V 791 (V 775 23 - 1))) 782 (200 + (gs.length : Int)) (V 792 (V 775 23 - 1))) 783 (200 + (gs.length : Int)) 0) 775 24 (gs.length : Int) 779 10 = (gs.length : Int) by simp [gup]; exact h779]
              refine gX_iconst dX12_takeBar_206 ⟨by decide, by decide⟩ ?_
              refine gX_iadd dX12_takeBar_207 ⟨by omega, by omega⟩ ?_
              refine gX_iast dX12_takeBar_208 (mA4 hM) (by omega) (by omega) ?_
              refine gX_aloadn dX12_takeBar_209 rfl ?_
              refine gX_iconst dX12_takeBar_210 ⟨by decide, by decide⟩ ?_
              refine gX_pI 26 dX12_takeBar_211 fdX12_200 fpX12_200 rfl (Or.inr ⟨rfl, Or.inl rfl⟩) hM.1 ?_
              refine gX_aloadn dX12_takeBar_214 rfl ?_
              refine gX_iconst dX12_takeBar_215 ⟨by decide, by decide⟩ ?_
              refine gX_pI 27 dX12_takeBar_216 fdX12_211 fpX12_211 rfl (Or.inr ⟨rfl, Or.inl rfl⟩) hM.1 ?_
              refine gX_iconst dX12_takeBar_219 ⟨by decide, by decide⟩ ?_
              refine gX_iret dX12_takeBar_220 (Or.inl rfl) ?_
              have er := sgG (tx := tx) (st := st) (lf := lf) hpk hc ho.2
              rw [if_pos okg, if_neg (show ¬ 20 ≤ gs.length by omega), if_neg (fun z => by have := hdp.mp z; omega)] at er
              have ec : (lat ys (pkB ys (t.1 + 1))) - 97 = 1 := by omega
              have hbb := hB.bar (V' := gup (gup (gup (gup (gup (gup (gup (gup (gup V1 775 18 ((pkB ys (t.1 + 1)) + 1)) 780 (200 + (gs.length : Int)) 1) 781 (200 + (gs.length : Int)) (V 791 (V 775 23 - 1))) 782 (200 + (gs.length : Int)) (V 792 (V 775 23 - 1))) 783 (200 + (gs.length : Int)) 0) 775 24 (gs.length : Int)) 779 10 ((gs.length : Int) + 1)) 775 26 0) 775 27 0) (kd := (lat ys (pkB ys (t.1 + 1))) - 97) (H := (glH (t, tx, gs, st, op, lf))) (A := (glA (t, tx, gs, st, op, lf))) (Z := (glZ (t, tx, gs, st, op, lf))) hP (by omega) (glc ho.2 okg) ?_ ?_ ?_ ?_ ?_ ?_ ?_ ?_ (fun k => ?_) (fun x i => ?_)
              · refine hQ (gup (gup (gup (gup (gup (gup (gup (gup (gup V1 775 18 ((pkB ys (t.1 + 1)) + 1)) 780 (200 + (gs.length : Int)) 1) 781 (200 + (gs.length : Int)) (V 791 (V 775 23 - 1))) 782 (200 + (gs.length : Int)) (V 792 (V 775 23 - 1))) 783 (200 + (gs.length : Int)) 0) 775 24 (gs.length : Int)) 779 10 ((gs.length : Int) + 1)) 775 26 0) 775 27 0) _ ?_ (Or.inr (Or.inr ?_))
                · exact ((((((((((tkF.rf.uf (by omega)).trans hf1t).uf (by omega)).ub (by omega) (by unfold inSl; omega)).ub (by omega) (by unfold inSl; omega)).ub (by omega) (by unfold inSl; omega)).ub (by omega) (by unfold inSl; omega)).uf (by omega)).ub (by omega) (by unfold inSl; omega)).uf (by omega)).uf (by omega)
                · rw [er]
                  refine ⟨rfl, rfl, by omega, ?_, ?_, hbb.1, hP.bar (by omega) (glc ho.2 okg) (by have := hdp; omega), hK.ap, ?_⟩
                  · simp [gup]; rw [hf1.2 17 (by omega), gup_c (Or.inr (by omega))]; exact hz.2.2
                  · simp [gup]
                  · simp [gup]; rw [hf1.2 28 (by omega), gup_c (Or.inr (by omega))]; omega
              · refine hB.1.addg (by omega) (by simp [gup]) ⟨?_, ?_, by simp [gup]⟩ (fun k hk => ⟨?_, ?_, ?_⟩) ⟨?_, ?_, ?_⟩
                · rw [ec]; simp [gup]
                · simp [gup]; exact htop
                · simp [gup, hk]; rw [hf1.1 780 (by omega), gup_ne (by omega)]
                · simp [gup, hk]; rw [hf1.1 781 (by omega), gup_ne (by omega)]
                · simp [gup, hk]; rw [hf1.1 783 (by omega), gup_ne (by omega)]
                · repeat rw [gup_ne (by omega)]
                  rw [hf1.1 776 (by omega), gup_ne (by omega)]
                · repeat rw [gup_ne (by omega)]
                  rw [hf1.1 777 (by omega), gup_ne (by omega)]
                · repeat rw [gup_ne (by omega)]
                  rw [hf1.1 784 (by omega), gup_ne (by omega)]
              · simp [gup]; rw [hf1.2 23 (by omega), gup_c (Or.inr (by omega))]
              · simp [gup]
              · simp [gup]
              · simp [gup]
              · simp [gup]; rw [hf1.2 28 (by omega), gup_c (Or.inr (by omega))]
              · repeat rw [gup_ne (by omega)]
                rw [hf1.1 791 (by omega), gup_ne (by omega)]
              · repeat rw [gup_ne (by omega)]
                rw [hf1.1 792 (by omega), gup_ne (by omega)]
              · rw [gup_ne (by omega), gup_ne (by omega), gup_ne (by omega), gup_ne (by omega), gup_ne (by omega)]
                by_cases ck : k = 200 + gs.length
                · rw [if_pos ck, ck]; exact gup_s
                · rw [if_neg ck, gup_c (Or.inr ck), gup_ne (by omega), gup_ne (by omega), gup_ne (by omega), hf1.1 782 (by omega), gup_ne (by omega)]
              · unfold spA
                simp only [gup_ne (show (785 : Int) ≠ 775 by omega), gup_ne (show (785 : Int) ≠ 779 by omega), gup_ne (show (785 : Int) ≠ 783 by omega), gup_ne (show (785 : Int) ≠ 782 by omega), gup_ne (show (785 : Int) ≠ 781 by omega), gup_ne (show (785 : Int) ≠ 780 by omega), gup_ne (show (778 : Int) ≠ 775 by omega), gup_ne (show (778 : Int) ≠ 779 by omega), gup_ne (show (778 : Int) ≠ 783 by omega), gup_ne (show (778 : Int) ≠ 782 by omega), gup_ne (show (778 : Int) ≠ 781 by omega), gup_ne (show (778 : Int) ≠ 780 by omega)]
                rw [hf1.1 778 (by omega), hf1.1 785 (by omega), gup_ne (by omega), gup_ne (by omega)]
            · refine gX_iconst dX12_takeBar_140 ⟨by decide, by decide⟩ ?_
              refine gX_goto (tgt := 145) dX12_takeBar_141 (by decide) ?_
              refine gX_iast dX12_takeBar_145 (mA5 hM) (by omega) (by omega) ?_
              refine gX_aloadn dX12_takeBar_146 rfl ?_
              refine gX_gR 6 dX12_takeBar_147 fdX12_25 rfl rfl hM.1 (mR6 hM) ?_
              refine gX_iloadn dX12_takeBar_150 rfl ?_
              refine gX_aloadn dX12_takeBar_151 rfl ?_
              refine gX_gR 21 dX12_takeBar_152 fdX12_59 rfl rfl hM.1 (mR21 hM) ?_
              refine gX_aloadn dX12_takeBar_155 rfl ?_
              refine gX_gI 23 dX12_takeBar_156 fdX12_214 rfl (Or.inl rfl) hM.1 ?_
              rw [show gup (gup V1 775 18 ((pkB ys (t.1 + 1)) + 1)) 780 (200 + (gs.length : Int)) 0 775 23 = V 775 23 by simp [gup]; exact h231]
              refine gX_iconst dX12_takeBar_159 ⟨by decide, by decide⟩ ?_
              refine gX_isub dX12_takeBar_160 ⟨by omega, by omega⟩ ?_
              refine gX_iald dX12_takeBar_161 (mA21 hM) (by omega) (by omega) ?_
              rw [show gup (gup V1 775 18 ((pkB ys (t.1 + 1)) + 1)) 780 (200 + (gs.length : Int)) 0 791 (V 775 23 - 1) = V 791 (V 775 23 - 1) by simp [gup]; rw [h791]]
              refine gX_iast dX12_takeBar_162 (mA6 hM) (by omega) (by omega) ?_
              refine gX_aloadn dX12_takeBar_163 rfl ?_
              refine gX_gR 7 dX12_takeBar_164 fdX12_28 rfl rfl hM.1 (mR7 hM) ?_
              refine gX_iloadn dX12_takeBar_167 rfl ?_
              refine gX_aloadn dX12_takeBar_168 rfl ?_
              refine gX_gR 22 dX12_takeBar_169 fdX12_62 rfl rfl hM.1 (mR22 hM) ?_
              refine gX_aloadn dX12_takeBar_172 rfl ?_
              refine gX_gI 23 dX12_takeBar_173 fdX12_214 rfl (Or.inl rfl) hM.1 ?_
              rw [show gup (gup (gup V1 775 18 ((pkB ys (t.1 + 1)) + 1)) 780 (200 + (gs.length : Int)) 0) 781 (200 + (gs.length : Int)) (V 791 (V 775 23 - 1)) 775 23 = V 775 23 by simp [gup]; exact h231]
              refine gX_iconst dX12_takeBar_176 ⟨by decide, by decide⟩ ?_
              refine gX_isub dX12_takeBar_177 ⟨by omega, by omega⟩ ?_
              refine gX_iald dX12_takeBar_178 (mA22 hM) (by omega) (by omega) ?_
              rw [show gup (gup (gup V1 775 18 ((pkB ys (t.1 + 1)) + 1)) 780 (200 + (gs.length : Int)) 0) 781 (200 + (gs.length : Int)) (V 791 (V 775 23 - 1)) 792 (V 775 23 - 1) = V 792 (V 775 23 - 1) by simp [gup]; rw [h792]]
              refine gX_iast dX12_takeBar_179 (mA7 hM) (by omega) (by omega) ?_
              refine gX_aloadn dX12_takeBar_180 rfl ?_
              refine gX_gR 8 dX12_takeBar_181 fdX12_31 rfl rfl hM.1 (mR8 hM) ?_
              refine gX_iloadn dX12_takeBar_184 rfl ?_
              refine gX_iconst dX12_takeBar_185 ⟨by decide, by decide⟩ ?_
              refine gX_iast dX12_takeBar_186 (mA8 hM) (by omega) (by omega) ?_
              refine gX_aloadn dX12_takeBar_187 rfl ?_
              refine gX_aloadn dX12_takeBar_188 rfl ?_
              refine gX_gR 4 dX12_takeBar_189 fdX12_19 rfl rfl hM.1 (mR4 hM) ?_
              refine gX_bipush dX12_takeBar_192 (by decide) ⟨by decide, by decide⟩ ?_
              refine gX_iald dX12_takeBar_194 (mA4 hM) (by omega) (by omega) ?_
              rw [show gup (gup (gup (gup (gup V1 775 18 ((pkB ys (t.1 + 1)) + 1)) 780 (200 + (gs.length : Int)) 0) 781 (200 + (gs.length : Int)) (V 791 (V 775 23 - 1))) 782 (200 + (gs.length : Int)) (V 792 (V 775 23 - 1))) 783 (200 + (gs.length : Int)) 0 779 10 = (gs.length : Int) by simp [gup]; exact h779]
              refine gX_pI 24 dX12_takeBar_195 fdX12_191 fpX12_191 rfl (Or.inl rfl) hM.1 ?_
              refine gX_aloadn dX12_takeBar_198 rfl ?_
              refine gX_gR 4 dX12_takeBar_199 fdX12_19 rfl rfl hM.1 (mR4 hM) ?_
              refine gX_bipush dX12_takeBar_202 (by decide) ⟨by decide, by decide⟩ ?_
              refine gX_dup2 dX12_takeBar_204 rfl rfl ?_
              refine gX_iald dX12_takeBar_205 (mA4 hM) (by omega) (by omega) ?_
              rw [show gup (gup (gup (gup (gup (gup V1 775 18 ((pkB ys (t.1 + 1)) + 1)) 780 (200 + (gs.length : Int)) 0) 781 (200 + (gs.length : Int)) (V 791 (V 775 23 - 1))) 782 (200 + (gs.length : Int)) (V 792 (V 775 23 - 1))) 783 (200 + (gs.length : Int)) 0) 775 24 (gs.length : Int) 779 10 = (gs.length : Int) by simp [gup]; exact h779]
              refine gX_iconst dX12_takeBar_206 ⟨by decide, by decide⟩ ?_
              refine gX_iadd dX12_takeBar_207 ⟨by omega, by omega⟩ ?_
              refine gX_iast dX12_takeBar_208 (mA4 hM) (by omega) (by omega) ?_
              refine gX_aloadn dX12_takeBar_209 rfl ?_
              refine gX_iconst dX12_takeBar_210 ⟨by decide, by decide⟩ ?_
              refine gX_pI 26 dX12_takeBar_211 fdX12_200 fpX12_200 rfl (Or.inr ⟨rfl, Or.inl rfl⟩) hM.1 ?_
              refine gX_aloadn dX12_takeBar_214 rfl ?_
              refine gX_iconst dX12_takeBar_215 ⟨by decide, by decide⟩ ?_
              refine gX_pI 27 dX12_takeBar_216 fdX12_211 fpX12_211 rfl (Or.inr ⟨rfl, Or.inl rfl⟩) hM.1 ?_
              refine gX_iconst dX12_takeBar_219 ⟨by decide, by decide⟩ ?_
              refine gX_iret dX12_takeBar_220 (Or.inl rfl) ?_
              have er := sgG (tx := tx) (st := st) (lf := lf) hpk hc ho.2
              rw [if_pos okg, if_neg (show ¬ 20 ≤ gs.length by omega), if_neg (fun z => by have := hdp.mp z; omega)] at er
              have ec : (lat ys (pkB ys (t.1 + 1))) - 97 = 0 := by omega
              have hbb := hB.bar (V' := gup (gup (gup (gup (gup (gup (gup (gup (gup V1 775 18 ((pkB ys (t.1 + 1)) + 1)) 780 (200 + (gs.length : Int)) 0) 781 (200 + (gs.length : Int)) (V 791 (V 775 23 - 1))) 782 (200 + (gs.length : Int)) (V 792 (V 775 23 - 1))) 783 (200 + (gs.length : Int)) 0) 775 24 (gs.length : Int)) 779 10 ((gs.length : Int) + 1)) 775 26 0) 775 27 0) (kd := (lat ys (pkB ys (t.1 + 1))) - 97) (H := (glH (t, tx, gs, st, op, lf))) (A := (glA (t, tx, gs, st, op, lf))) (Z := (glZ (t, tx, gs, st, op, lf))) hP (by omega) (glc ho.2 okg) ?_ ?_ ?_ ?_ ?_ ?_ ?_ ?_ (fun k => ?_) (fun x i => ?_)
              · refine hQ (gup (gup (gup (gup (gup (gup (gup (gup (gup V1 775 18 ((pkB ys (t.1 + 1)) + 1)) 780 (200 + (gs.length : Int)) 0) 781 (200 + (gs.length : Int)) (V 791 (V 775 23 - 1))) 782 (200 + (gs.length : Int)) (V 792 (V 775 23 - 1))) 783 (200 + (gs.length : Int)) 0) 775 24 (gs.length : Int)) 779 10 ((gs.length : Int) + 1)) 775 26 0) 775 27 0) _ ?_ (Or.inr (Or.inr ?_))
                · exact ((((((((((tkF.rf.uf (by omega)).trans hf1t).uf (by omega)).ub (by omega) (by unfold inSl; omega)).ub (by omega) (by unfold inSl; omega)).ub (by omega) (by unfold inSl; omega)).ub (by omega) (by unfold inSl; omega)).uf (by omega)).ub (by omega) (by unfold inSl; omega)).uf (by omega)).uf (by omega)
                · rw [er]
                  refine ⟨rfl, rfl, by omega, ?_, ?_, hbb.1, hP.bar (by omega) (glc ho.2 okg) (by have := hdp; omega), hK.ap, ?_⟩
                  · simp [gup]; rw [hf1.2 17 (by omega), gup_c (Or.inr (by omega))]; exact hz.2.2
                  · simp [gup]
                  · simp [gup]; rw [hf1.2 28 (by omega), gup_c (Or.inr (by omega))]; omega
              · refine hB.1.addg (by omega) (by simp [gup]) ⟨?_, ?_, by simp [gup]⟩ (fun k hk => ⟨?_, ?_, ?_⟩) ⟨?_, ?_, ?_⟩
                · rw [ec]; simp [gup]
                · simp [gup]; exact htop
                · simp [gup, hk]; rw [hf1.1 780 (by omega), gup_ne (by omega)]
                · simp [gup, hk]; rw [hf1.1 781 (by omega), gup_ne (by omega)]
                · simp [gup, hk]; rw [hf1.1 783 (by omega), gup_ne (by omega)]
                · repeat rw [gup_ne (by omega)]
                  rw [hf1.1 776 (by omega), gup_ne (by omega)]
                · repeat rw [gup_ne (by omega)]
                  rw [hf1.1 777 (by omega), gup_ne (by omega)]
                · repeat rw [gup_ne (by omega)]
                  rw [hf1.1 784 (by omega), gup_ne (by omega)]
              · simp [gup]; rw [hf1.2 23 (by omega), gup_c (Or.inr (by omega))]
              · simp [gup]
              · simp [gup]
              · simp [gup]
              · simp [gup]; rw [hf1.2 28 (by omega), gup_c (Or.inr (by omega))]
              · repeat rw [gup_ne (by omega)]
                rw [hf1.1 791 (by omega), gup_ne (by omega)]
              · repeat rw [gup_ne (by omega)]
                rw [hf1.1 792 (by omega), gup_ne (by omega)]
              · rw [gup_ne (by omega), gup_ne (by omega), gup_ne (by omega), gup_ne (by omega), gup_ne (by omega)]
                by_cases ck : k = 200 + gs.length
                · rw [if_pos ck, ck]; exact gup_s
                · rw [if_neg ck, gup_c (Or.inr ck), gup_ne (by omega), gup_ne (by omega), gup_ne (by omega), hf1.1 782 (by omega), gup_ne (by omega)]
              · unfold spA
                simp only [gup_ne (show (785 : Int) ≠ 775 by omega), gup_ne (show (785 : Int) ≠ 779 by omega), gup_ne (show (785 : Int) ≠ 783 by omega), gup_ne (show (785 : Int) ≠ 782 by omega), gup_ne (show (785 : Int) ≠ 781 by omega), gup_ne (show (785 : Int) ≠ 780 by omega), gup_ne (show (778 : Int) ≠ 775 by omega), gup_ne (show (778 : Int) ≠ 779 by omega), gup_ne (show (778 : Int) ≠ 783 by omega), gup_ne (show (778 : Int) ≠ 782 by omega), gup_ne (show (778 : Int) ≠ 781 by omega), gup_ne (show (778 : Int) ≠ 780 by omega)]
                rw [hf1.1 778 (by omega), hf1.1 785 (by omega), gup_ne (by omega), gup_ne (by omega)]
          · refine gX_iloadn dX12_takeBar_91 rfl ?_
            refine gX_bipush dX12_takeBar_92 (by decide) ⟨by decide, by decide⟩ ?_
            refine gX_icmpeq (tgt := 107) dX12_takeBar_94 (by decide) (fun m8 => ?_) (fun m8 => ?_)
            · refine gX_aloadn dX12_takeBar_107 rfl ?_
              refine gX_dup dX12_takeBar_108 rfl ?_
              refine gX_gI 18 dX12_takeBar_109 fdX12_167 rfl (Or.inl rfl) hM.1 ?_
              rw [e18]
              refine gX_iconst dX12_takeBar_112 ⟨by decide, by decide⟩ ?_
              refine gX_iadd dX12_takeBar_113 ⟨by omega, by omega⟩ ?_
              refine gX_pI 18 dX12_takeBar_114 fdX12_167 fpX12_167 rfl (Or.inl rfl) hM.1 ?_
              refine gX_sipush dX12_takeBar_117 (by decide) ⟨by decide, by decide⟩ ?_
              refine gX_aloadn dX12_takeBar_120 rfl ?_
              refine gX_gR 4 dX12_takeBar_121 fdX12_19 rfl rfl hM.1 (mR4 hM) ?_
              refine gX_bipush dX12_takeBar_124 (by decide) ⟨by decide, by decide⟩ ?_
              refine gX_iald dX12_takeBar_126 (mA4 hM) (by omega) (by omega) ?_
              rw [show gup V1 775 18 ((pkB ys (t.1 + 1)) + 1) 779 10 = (gs.length : Int) by simp [gup]; exact h779]
              refine gX_iadd dX12_takeBar_127 ⟨by omega, by omega⟩ ?_
              refine gX_istoren dX12_takeBar_128 (show (2 : Nat) < 3 from by decide) (ls2 := [some (ga 775), some (gi (lat ys (pkB ys (t.1 + 1)))), some (gi (200 + (gs.length : Int)))]) rfl ?_
              refine gX_aloadn dX12_takeBar_129 rfl ?_
              refine gX_gR 5 dX12_takeBar_130 fdX12_22 rfl rfl hM.1 (mR5 hM) ?_
              refine gX_iloadn dX12_takeBar_133 rfl ?_
              refine gX_iloadn dX12_takeBar_134 rfl ?_
              refine gX_bipush dX12_takeBar_135 (by decide) ⟨by decide, by decide⟩ ?_
              refine gX_icmpne (tgt := 144) dX12_takeBar_137 (by decide) (fun m9 => ?_) (fun m9 => ?_)
              · refine gX_iconst dX12_takeBar_144 ⟨by decide, by decide⟩ ?_
                refine gX_iast dX12_takeBar_145 (mA5 hM) (by omega) (by omega) ?_
                refine gX_aloadn dX12_takeBar_146 rfl ?_
                refine gX_gR 6 dX12_takeBar_147 fdX12_25 rfl rfl hM.1 (mR6 hM) ?_
                refine gX_iloadn dX12_takeBar_150 rfl ?_
                refine gX_aloadn dX12_takeBar_151 rfl ?_
                refine gX_gR 21 dX12_takeBar_152 fdX12_59 rfl rfl hM.1 (mR21 hM) ?_
                refine gX_aloadn dX12_takeBar_155 rfl ?_
                refine gX_gI 23 dX12_takeBar_156 fdX12_214 rfl (Or.inl rfl) hM.1 ?_
                rw [show gup (gup V1 775 18 ((pkB ys (t.1 + 1)) + 1)) 780 (200 + (gs.length : Int)) 1 775 23 = V 775 23 by simp [gup]; exact h231]
                refine gX_iconst dX12_takeBar_159 ⟨by decide, by decide⟩ ?_
                refine gX_isub dX12_takeBar_160 ⟨by omega, by omega⟩ ?_
                refine gX_iald dX12_takeBar_161 (mA21 hM) (by omega) (by omega) ?_
                rw [show gup (gup V1 775 18 ((pkB ys (t.1 + 1)) + 1)) 780 (200 + (gs.length : Int)) 1 791 (V 775 23 - 1) = V 791 (V 775 23 - 1) by simp [gup]; rw [h791]]
                refine gX_iast dX12_takeBar_162 (mA6 hM) (by omega) (by omega) ?_
                refine gX_aloadn dX12_takeBar_163 rfl ?_
                refine gX_gR 7 dX12_takeBar_164 fdX12_28 rfl rfl hM.1 (mR7 hM) ?_
                refine gX_iloadn dX12_takeBar_167 rfl ?_
                refine gX_aloadn dX12_takeBar_168 rfl ?_
                refine gX_gR 22 dX12_takeBar_169 fdX12_62 rfl rfl hM.1 (mR22 hM) ?_
                refine gX_aloadn dX12_takeBar_172 rfl ?_
                refine gX_gI 23 dX12_takeBar_173 fdX12_214 rfl (Or.inl rfl) hM.1 ?_
                rw [show gup (gup (gup V1 775 18 ((pkB ys (t.1 + 1)) + 1)) 780 (200 + (gs.length : Int)) 1) 781 (200 + (gs.length : Int)) (V 791 (V 775 23 - 1)) 775 23 = V 775 23 by simp [gup]; exact h231]
                refine gX_iconst dX12_takeBar_176 ⟨by decide, by decide⟩ ?_
                refine gX_isub dX12_takeBar_177 ⟨by omega, by omega⟩ ?_
                refine gX_iald dX12_takeBar_178 (mA22 hM) (by omega) (by omega) ?_
                rw [show gup (gup (gup V1 775 18 ((pkB ys (t.1 + 1)) + 1)) 780 (200 + (gs.length : Int)) 1) 781 (200 + (gs.length : Int)) (V 791 (V 775 23 - 1)) 792 (V 775 23 - 1) = V 792 (V 775 23 - 1) by simp [gup]; rw [h792]]
                refine gX_iast dX12_takeBar_179 (mA7 hM) (by omega) (by omega) ?_
                refine gX_aloadn dX12_takeBar_180 rfl ?_
                refine gX_gR 8 dX12_takeBar_181 fdX12_31 rfl rfl hM.1 (mR8 hM) ?_
                refine gX_iloadn dX12_takeBar_184 rfl ?_
                refine gX_iconst dX12_takeBar_185 ⟨by decide, by decide⟩ ?_
                refine gX_iast dX12_takeBar_186 (mA8 hM) (by omega) (by omega) ?_
                refine gX_aloadn dX12_takeBar_187 rfl ?_
                refine gX_aloadn dX12_takeBar_188 rfl ?_
                refine gX_gR 4 dX12_takeBar_189 fdX12_19 rfl rfl hM.1 (mR4 hM) ?_
                refine gX_bipush dX12_takeBar_192 (by decide) ⟨by decide, by decide⟩ ?_
                refine gX_iald dX12_takeBar_194 (mA4 hM) (by omega) (by omega) ?_
                rw [show gup (gup (gup (gup (gup V1 775 18 ((pkB ys (t.1 + 1)) + 1)) 780 (200 + (gs.length : Int)) 1) 781 (200 + (gs.length : Int)) (V 791 (V 775 23 - 1))) 782 (200 + (gs.length : Int)) (V 792 (V 775 23 - 1))) 783 (200 + (gs.length : Int)) 0 779 10 = (gs.length : Int) by simp [gup]; exact h779]
                refine gX_pI 24 dX12_takeBar_195 fdX12_191 fpX12_191 rfl (Or.inl rfl) hM.1 ?_
                refine gX_aloadn dX12_takeBar_198 rfl ?_
                refine gX_gR 4 dX12_takeBar_199 fdX12_19 rfl rfl hM.1 (mR4 hM) ?_
                refine gX_bipush dX12_takeBar_202 (by decide) ⟨by decide, by decide⟩ ?_
                refine gX_dup2 dX12_takeBar_204 rfl rfl ?_
                refine gX_iald dX12_takeBar_205 (mA4 hM) (by omega) (by omega) ?_
                rw [show gup (gup (gup (gup (gup (gup V1 775 18 ((pkB ys (t.1 + 1)) + 1)) 780 (200 + (gs.length : Int)) 1) 781 (200 + (gs.length : Int)) (V 791 (V 775 23 - 1))) 782 (200 + (gs.length : Int)) (V 792 (V 775 23 - 1))) 783 (200 + (gs.length : Int)) 0) 775 24 (gs.length : Int) 779 10 = (gs.length : Int) by simp [gup]; exact h779]
                refine gX_iconst dX12_takeBar_206 ⟨by decide, by decide⟩ ?_
                refine gX_iadd dX12_takeBar_207 ⟨by omega, by omega⟩ ?_
                refine gX_iast dX12_takeBar_208 (mA4 hM) (by omega) (by omega) ?_
                refine gX_aloadn dX12_takeBar_209 rfl ?_
                refine gX_iconst dX12_takeBar_210 ⟨by decide, by decide⟩ ?_
                refine gX_pI 26 dX12_takeBar_211 fdX12_200 fpX12_200 rfl (Or.inr ⟨rfl, Or.inl rfl⟩) hM.1 ?_
                refine gX_aloadn dX12_takeBar_214 rfl ?_
                refine gX_iconst dX12_takeBar_215 ⟨by decide, by decide⟩ ?_
                refine gX_pI 27 dX12_takeBar_216 fdX12_211 fpX12_211 rfl (Or.inr ⟨rfl, Or.inl rfl⟩) hM.1 ?_
                refine gX_iconst dX12_takeBar_219 ⟨by decide, by decide⟩ ?_
                refine gX_iret dX12_takeBar_220 (Or.inl rfl) ?_
                have er := sgG (tx := tx) (st := st) (lf := lf) hpk hc ho.2
                rw [if_pos okg, if_neg (show ¬ 20 ≤ gs.length by omega), if_neg (fun z => by have := hdp.mp z; omega)] at er
                have ec : (lat ys (pkB ys (t.1 + 1))) - 97 = 1 := by omega
                have hbb := hB.bar (V' := gup (gup (gup (gup (gup (gup (gup (gup (gup V1 775 18 ((pkB ys (t.1 + 1)) + 1)) 780 (200 + (gs.length : Int)) 1) 781 (200 + (gs.length : Int)) (V 791 (V 775 23 - 1))) 782 (200 + (gs.length : Int)) (V 792 (V 775 23 - 1))) 783 (200 + (gs.length : Int)) 0) 775 24 (gs.length : Int)) 779 10 ((gs.length : Int) + 1)) 775 26 0) 775 27 0) (kd := (lat ys (pkB ys (t.1 + 1))) - 97) (H := (glH (t, tx, gs, st, op, lf))) (A := (glA (t, tx, gs, st, op, lf))) (Z := (glZ (t, tx, gs, st, op, lf))) hP (by omega) (glc ho.2 okg) ?_ ?_ ?_ ?_ ?_ ?_ ?_ ?_ (fun k => ?_) (fun x i => ?_)
                · refine hQ (gup (gup (gup (gup (gup (gup (gup (gup (gup V1 775 18 ((pkB ys (t.1 + 1)) + 1)) 780 (200 + (gs.length : Int)) 1) 781 (200 + (gs.length : Int)) (V 791 (V 775 23 - 1))) 782 (200 + (gs.length : Int)) (V 792 (V 775 23 - 1))) 783 (200 + (gs.length : Int)) 0) 775 24 (gs.length : Int)) 779 10 ((gs.length : Int) + 1)) 775 26 0) 775 27 0) _ ?_ (Or.inr (Or.inr ?_))
                  · exact ((((((((((tkF.rf.uf (by omega)).trans hf1t).uf (by omega)).ub (by omega) (by unfold inSl; omega)).ub (by omega) (by unfold inSl; omega)).ub (by omega) (by unfold inSl; omega)).ub (by omega) (by unfold inSl; omega)).uf (by omega)).ub (by omega) (by unfold inSl; omega)).uf (by omega)).uf (by omega)
                  · rw [er]
                    refine ⟨rfl, rfl, by omega, ?_, ?_, hbb.1, hP.bar (by omega) (glc ho.2 okg) (by have := hdp; omega), hK.ap, ?_⟩
                    · simp [gup]; rw [hf1.2 17 (by omega), gup_c (Or.inr (by omega))]; exact hz.2.2
                    · simp [gup]
                    · simp [gup]; rw [hf1.2 28 (by omega), gup_c (Or.inr (by omega))]; omega
                · refine hB.1.addg (by omega) (by simp [gup]) ⟨?_, ?_, by simp [gup]⟩ (fun k hk => ⟨?_, ?_, ?_⟩) ⟨?_, ?_, ?_⟩
                  · rw [ec]; simp [gup]
                  · simp [gup]; exact htop
                  · simp [gup, hk]; rw [hf1.1 780 (by omega), gup_ne (by omega)]
                  · simp [gup, hk]; rw [hf1.1 781 (by omega), gup_ne (by omega)]
                  · simp [gup, hk]; rw [hf1.1 783 (by omega), gup_ne (by omega)]
                  · repeat rw [gup_ne (by omega)]
                    rw [hf1.1 776 (by omega), gup_ne (by omega)]
                  · repeat rw [gup_ne (by omega)]
                    rw [hf1.1 777 (by omega), gup_ne (by omega)]
                  · repeat rw [gup_ne (by omega)]
                    rw [hf1.1 784 (by omega), gup_ne (by omega)]
                · simp [gup]; rw [hf1.2 23 (by omega), gup_c (Or.inr (by omega))]
                · simp [gup]
                · simp [gup]
                · simp [gup]
                · simp [gup]; rw [hf1.2 28 (by omega), gup_c (Or.inr (by omega))]
                · repeat rw [gup_ne (by omega)]
                  rw [hf1.1 791 (by omega), gup_ne (by omega)]
                · repeat rw [gup_ne (by omega)]
                  rw [hf1.1 792 (by omega), gup_ne (by omega)]
                · rw [gup_ne (by omega), gup_ne (by omega), gup_ne (by omega), gup_ne (by omega), gup_ne (by omega)]
                  by_cases ck : k = 200 + gs.length
                  · rw [if_pos ck, ck]; exact gup_s
                  · rw [if_neg ck, gup_c (Or.inr ck), gup_ne (by omega), gup_ne (by omega), gup_ne (by omega), hf1.1 782 (by omega), gup_ne (by omega)]
                · unfold spA
                  simp only [gup_ne (show (785 : Int) ≠ 775 by omega), gup_ne (show (785 : Int) ≠ 779 by omega), gup_ne (show (785 : Int) ≠ 783 by omega), gup_ne (show (785 : Int) ≠ 782 by omega), gup_ne (show (785 : Int) ≠ 781 by omega), gup_ne (show (785 : Int) ≠ 780 by omega), gup_ne (show (778 : Int) ≠ 775 by omega), gup_ne (show (778 : Int) ≠ 779 by omega), gup_ne (show (778 : Int) ≠ 783 by omega), gup_ne (show (778 : Int) ≠ 782 by omega), gup_ne (show (778 : Int) ≠ 781 by omega), gup_ne (show (778 : Int) ≠ 780 by omega)]
                  rw [hf1.1 778 (by omega), hf1.1 785 (by omega), gup_ne (by omega), gup_ne (by omega)]
              · refine gX_iconst dX12_takeBar_140 ⟨by decide, by decide⟩ ?_
                refine gX_goto (tgt := 145) dX12_takeBar_141 (by decide) ?_
                refine gX_iast dX12_takeBar_145 (mA5 hM) (by omega) (by omega) ?_
                refine gX_aloadn dX12_takeBar_146 rfl ?_
                refine gX_gR 6 dX12_takeBar_147 fdX12_25 rfl rfl hM.1 (mR6 hM) ?_
                refine gX_iloadn dX12_takeBar_150 rfl ?_
                refine gX_aloadn dX12_takeBar_151 rfl ?_
                refine gX_gR 21 dX12_takeBar_152 fdX12_59 rfl rfl hM.1 (mR21 hM) ?_
                refine gX_aloadn dX12_takeBar_155 rfl ?_
                refine gX_gI 23 dX12_takeBar_156 fdX12_214 rfl (Or.inl rfl) hM.1 ?_
                rw [show gup (gup V1 775 18 ((pkB ys (t.1 + 1)) + 1)) 780 (200 + (gs.length : Int)) 0 775 23 = V 775 23 by simp [gup]; exact h231]
                refine gX_iconst dX12_takeBar_159 ⟨by decide, by decide⟩ ?_
                refine gX_isub dX12_takeBar_160 ⟨by omega, by omega⟩ ?_
                refine gX_iald dX12_takeBar_161 (mA21 hM) (by omega) (by omega) ?_
                rw [show gup (gup V1 775 18 ((pkB ys (t.1 + 1)) + 1)) 780 (200 + (gs.length : Int)) 0 791 (V 775 23 - 1) = V 791 (V 775 23 - 1) by simp [gup]; rw [h791]]
                refine gX_iast dX12_takeBar_162 (mA6 hM) (by omega) (by omega) ?_
                refine gX_aloadn dX12_takeBar_163 rfl ?_
                refine gX_gR 7 dX12_takeBar_164 fdX12_28 rfl rfl hM.1 (mR7 hM) ?_
                refine gX_iloadn dX12_takeBar_167 rfl ?_
                refine gX_aloadn dX12_takeBar_168 rfl ?_
                refine gX_gR 22 dX12_takeBar_169 fdX12_62 rfl rfl hM.1 (mR22 hM) ?_
                refine gX_aloadn dX12_takeBar_172 rfl ?_
                refine gX_gI 23 dX12_takeBar_173 fdX12_214 rfl (Or.inl rfl) hM.1 ?_
                rw [show gup (gup (gup V1 775 18 ((pkB ys (t.1 + 1)) + 1)) 780 (200 + (gs.length : Int)) 0) 781 (200 + (gs.length : Int)) (V 791 (V 775 23 - 1)) 775 23 = V 775 23 by simp [gup]; exact h231]
                refine gX_iconst dX12_takeBar_176 ⟨by decide, by decide⟩ ?_
                refine gX_isub dX12_takeBar_177 ⟨by omega, by omega⟩ ?_
                refine gX_iald dX12_takeBar_178 (mA22 hM) (by omega) (by omega) ?_
                rw [show gup (gup (gup V1 775 18 ((pkB ys (t.1 + 1)) + 1)) 780 (200 + (gs.length : Int)) 0) 781 (200 + (gs.length : Int)) (V 791 (V 775 23 - 1)) 792 (V 775 23 - 1) = V 792 (V 775 23 - 1) by simp [gup]; rw [h792]]
                refine gX_iast dX12_takeBar_179 (mA7 hM) (by omega) (by omega) ?_
                refine gX_aloadn dX12_takeBar_180 rfl ?_
                refine gX_gR 8 dX12_takeBar_181 fdX12_31 rfl rfl hM.1 (mR8 hM) ?_
                refine gX_iloadn dX12_takeBar_184 rfl ?_
                refine gX_iconst dX12_takeBar_185 ⟨by decide, by decide⟩ ?_
                refine gX_iast dX12_takeBar_186 (mA8 hM) (by omega) (by omega) ?_
                refine gX_aloadn dX12_takeBar_187 rfl ?_
                refine gX_aloadn dX12_takeBar_188 rfl ?_
                refine gX_gR 4 dX12_takeBar_189 fdX12_19 rfl rfl hM.1 (mR4 hM) ?_
                refine gX_bipush dX12_takeBar_192 (by decide) ⟨by decide, by decide⟩ ?_
                refine gX_iald dX12_takeBar_194 (mA4 hM) (by omega) (by omega) ?_
                rw [show gup (gup (gup (gup (gup V1 775 18 ((pkB ys (t.1 + 1)) + 1)) 780 (200 + (gs.length : Int)) 0) 781 (200 + (gs.length : Int)) (V 791 (V 775 23 - 1))) 782 (200 + (gs.length : Int)) (V 792 (V 775 23 - 1))) 783 (200 + (gs.length : Int)) 0 779 10 = (gs.length : Int) by simp [gup]; exact h779]
                refine gX_pI 24 dX12_takeBar_195 fdX12_191 fpX12_191 rfl (Or.inl rfl) hM.1 ?_
                refine gX_aloadn dX12_takeBar_198 rfl ?_
                refine gX_gR 4 dX12_takeBar_199 fdX12_19 rfl rfl hM.1 (mR4 hM) ?_
                refine gX_bipush dX12_takeBar_202 (by decide) ⟨by decide, by decide⟩ ?_
                refine gX_dup2 dX12_takeBar_204 rfl rfl ?_
                refine gX_iald dX12_takeBar_205 (mA4 hM) (by omega) (by omega) ?_
                rw [show gup (gup (gup (gup (gup (gup V1 775 18 ((pkB ys (t.1 + 1)) + 1)) 780 (200 + (gs.length : Int)) 0) 781 (200 + (gs.length : Int)) (V 791 (V 775 23 - 1))) 782 (200 + (gs.length : Int)) (V 792 (V 775 23 - 1))) 783 (200 + (gs.length : Int)) 0) 775 24 (gs.length : Int) 779 10 = (gs.length : Int) by simp [gup]; exact h779]
                refine gX_iconst dX12_takeBar_206 ⟨by decide, by decide⟩ ?_
                refine gX_iadd dX12_takeBar_207 ⟨by omega, by omega⟩ ?_
                refine gX_iast dX12_takeBar_208 (mA4 hM) (by omega) (by omega) ?_
                refine gX_aloadn dX12_takeBar_209 rfl ?_
                refine gX_iconst dX12_takeBar_210 ⟨by decide, by decide⟩ ?_
                refine gX_pI 26 dX12_takeBar_211 fdX12_200 fpX12_200 rfl (Or.inr ⟨rfl, Or.inl rfl⟩) hM.1 ?_
                refine gX_aloadn dX12_takeBar_214 rfl ?_
                refine gX_iconst dX12_takeBar_215 ⟨by decide, by decide⟩ ?_
                refine gX_pI 27 dX12_takeBar_216 fdX12_211 fpX12_211 rfl (Or.inr ⟨rfl, Or.inl rfl⟩) hM.1 ?_
                refine gX_iconst dX12_takeBar_219 ⟨by decide, by decide⟩ ?_
                refine gX_iret dX12_takeBar_220 (Or.inl rfl) ?_
                have er := sgG (tx := tx) (st := st) (lf := lf) hpk hc ho.2
                rw [if_pos okg, if_neg (show ¬ 20 ≤ gs.length by omega), if_neg (fun z => by have := hdp.mp z; omega)] at er
                have ec : (lat ys (pkB ys (t.1 + 1))) - 97 = 0 := by omega
                have hbb := hB.bar (V' := gup (gup (gup (gup (gup (gup (gup (gup (gup V1 775 18 ((pkB ys (t.1 + 1)) + 1)) 780 (200 + (gs.length : Int)) 0) 781 (200 + (gs.length : Int)) (V 791 (V 775 23 - 1))) 782 (200 + (gs.length : Int)) (V 792 (V 775 23 - 1))) 783 (200 + (gs.length : Int)) 0) 775 24 (gs.length : Int)) 779 10 ((gs.length : Int) + 1)) 775 26 0) 775 27 0) (kd := (lat ys (pkB ys (t.1 + 1))) - 97) (H := (glH (t, tx, gs, st, op, lf))) (A := (glA (t, tx, gs, st, op, lf))) (Z := (glZ (t, tx, gs, st, op, lf))) hP (by omega) (glc ho.2 okg) ?_ ?_ ?_ ?_ ?_ ?_ ?_ ?_ (fun k => ?_) (fun x i => ?_)
                · refine hQ (gup (gup (gup (gup (gup (gup (gup (gup (gup V1 775 18 ((pkB ys (t.1 + 1)) + 1)) 780 (200 + (gs.length : Int)) 0) 781 (200 + (gs.length : Int)) (V 791 (V 775 23 - 1))) 782 (200 + (gs.length : Int)) (V 792 (V 775 23 - 1))) 783 (200 + (gs.length : Int)) 0) 775 24 (gs.length : Int)) 779 10 ((gs.length : Int) + 1)) 775 26 0) 775 27 0) _ ?_ (Or.inr (Or.inr ?_))
                  · exact ((((((((((tkF.rf.uf (by omega)).trans hf1t).uf (by omega)).ub (by omega) (by unfold inSl; omega)).ub (by omega) (by unfold inSl; omega)).ub (by omega) (by unfold inSl; omega)).ub (by omega) (by unfold inSl; omega)).uf (by omega)).ub (by omega) (by unfold inSl; omega)).uf (by omega)).uf (by omega)
                  · rw [er]
                    refine ⟨rfl, rfl, by omega, ?_, ?_, hbb.1, hP.bar (by omega) (glc ho.2 okg) (by have := hdp; omega), hK.ap, ?_⟩
                    · simp [gup]; rw [hf1.2 17 (by omega), gup_c (Or.inr (by omega))]; exact hz.2.2
                    · simp [gup]
                    · simp [gup]; rw [hf1.2 28 (by omega), gup_c (Or.inr (by omega))]; omega
                · refine hB.1.addg (by omega) (by simp [gup]) ⟨?_, ?_, by simp [gup]⟩ (fun k hk => ⟨?_, ?_, ?_⟩) ⟨?_, ?_, ?_⟩
                  · rw [ec]; simp [gup]
                  · simp [gup]; exact htop
                  · simp [gup, hk]; rw [hf1.1 780 (by omega), gup_ne (by omega)]
                  · simp [gup, hk]; rw [hf1.1 781 (by omega), gup_ne (by omega)]
                  · simp [gup, hk]; rw [hf1.1 783 (by omega), gup_ne (by omega)]
                  · repeat rw [gup_ne (by omega)]
                    rw [hf1.1 776 (by omega), gup_ne (by omega)]
                  · repeat rw [gup_ne (by omega)]
                    rw [hf1.1 777 (by omega), gup_ne (by omega)]
                  · repeat rw [gup_ne (by omega)]
                    rw [hf1.1 784 (by omega), gup_ne (by omega)]
                · simp [gup]; rw [hf1.2 23 (by omega), gup_c (Or.inr (by omega))]
                · simp [gup]
                · simp [gup]
                · simp [gup]
                · simp [gup]; rw [hf1.2 28 (by omega), gup_c (Or.inr (by omega))]
                · repeat rw [gup_ne (by omega)]
                  rw [hf1.1 791 (by omega), gup_ne (by omega)]
                · repeat rw [gup_ne (by omega)]
                  rw [hf1.1 792 (by omega), gup_ne (by omega)]
                · rw [gup_ne (by omega), gup_ne (by omega), gup_ne (by omega), gup_ne (by omega), gup_ne (by omega)]
                  by_cases ck : k = 200 + gs.length
                  · rw [if_pos ck, ck]; exact gup_s
                  · rw [if_neg ck, gup_c (Or.inr ck), gup_ne (by omega), gup_ne (by omega), gup_ne (by omega), hf1.1 782 (by omega), gup_ne (by omega)]
                · unfold spA
                  simp only [gup_ne (show (785 : Int) ≠ 775 by omega), gup_ne (show (785 : Int) ≠ 779 by omega), gup_ne (show (785 : Int) ≠ 783 by omega), gup_ne (show (785 : Int) ≠ 782 by omega), gup_ne (show (785 : Int) ≠ 781 by omega), gup_ne (show (785 : Int) ≠ 780 by omega), gup_ne (show (778 : Int) ≠ 775 by omega), gup_ne (show (778 : Int) ≠ 779 by omega), gup_ne (show (778 : Int) ≠ 783 by omega), gup_ne (show (778 : Int) ≠ 782 by omega), gup_ne (show (778 : Int) ≠ 781 by omega), gup_ne (show (778 : Int) ≠ 780 by omega)]
                  rw [hf1.1 778 (by omega), hf1.1 785 (by omega), gup_ne (by omega), gup_ne (by omega)]
            · refine gX_aloadn dX12_takeBar_97 rfl ?_
              refine gX_iconst dX12_takeBar_98 ⟨by decide, by decide⟩ ?_
              refine gX_aloadn dX12_takeBar_99 rfl ?_
              refine gX_gI 18 dX12_takeBar_100 fdX12_167 rfl (Or.inl rfl) hM.1 ?_
              rw [e18]
              refine gX_virt (J := iX12_fails) (av := [gi 1, gi (pkB ys (t.1 + 1))]) (a := 775) (st := []) dX12_takeBar_103 lkX12_178 kX12_fails vX12_fails (gFit_m (by decide)) hM.1 rfl rfl (Nat.le_of_ble_eq_true rfl) (Nat.zero_le _) (Nat.zero_le _) rfl ?_
              refine m_fails hM ?_
              show gX l E _ 106 [some (ga 775), some (gi (lat ys (pkB ys (t.1 + 1)))), none] [gi 1] (K, R, gup V1 775 17 (pkB ys (t.1 + 1))) _ _
              refine gX_iret dX12_takeBar_106 (Or.inl rfl) ?_
              have er := sgG (tx := tx) (st := st) (lf := lf) hpk hc ho.2
              rw [if_pos okg, if_neg (show ¬ 20 ≤ gs.length by omega), if_neg (fun z => by have := hdp.mp z; omega)] at er
              refine hQ _ _ (((tkF.rf.uf (by omega)).trans hf1t).uf (by omega)) (Or.inr (Or.inl ?_))
              rw [er]
              exact ⟨rfl, rfl, by omega, by omega, gup_s⟩
        · refine gX_aloadn dX12_takeBar_44 rfl ?_
          refine gX_aloadn dX12_takeBar_45 rfl ?_
          refine gX_gR 4 dX12_takeBar_46 fdX12_19 rfl rfl hM.1 (mR4 hM) ?_
          refine gX_bipush dX12_takeBar_49 (by decide) ⟨by decide, by decide⟩ ?_
          refine gX_iald dX12_takeBar_51 (mA4 hM) (by omega) (by omega) ?_
          rw [hB.1.2.2.2.1]
          refine gX_bipush dX12_takeBar_52 (by decide) ⟨by decide, by decide⟩ ?_
          refine gX_icmpne (tgt := 61) dX12_takeBar_54 (by decide) (fun m10 => ?_) (fun m10 => ?_)
          · refine gX_iconst dX12_takeBar_61 ⟨by decide, by decide⟩ ?_
            refine gX_aloadn dX12_takeBar_62 rfl ?_
            refine gX_gI 18 dX12_takeBar_63 fdX12_167 rfl (Or.inl rfl) hM.1 ?_
            rw [ha]
            refine gX_virt (J := iX12_fails) (av := [gi 5, gi t.1]) (a := 775) (st := []) dX12_takeBar_66 lkX12_178 kX12_fails vX12_fails (gFit_m (by decide)) hM.1 rfl rfl (Nat.le_of_ble_eq_true rfl) (Nat.zero_le _) (Nat.zero_le _) rfl ?_
            refine m_fails hM ?_
            show gX l E _ 69 [some (ga 775), none, none] [gi 5] (K, R, gup V 775 17 t.1) _ _
            refine gX_iret dX12_takeBar_69 (Or.inl rfl) ?_
            have er := sgG (tx := tx) (st := st) (lf := lf) hpk hc ho.2
            rw [if_pos okg] at er
            refine hQ _ _ (tkF.rf.uf (by omega)) (Or.inl ?_)
            first
            | (rw [if_pos (show 20 ≤ gs.length by omega)] at er; rw [er]; exact ⟨rfl, gup_s, rfl, by omega⟩)
            | (rw [if_neg (show ¬ 20 ≤ gs.length by omega), if_pos (hdp.mpr (by omega))] at er; rw [er]; exact ⟨rfl, gup_s, rfl, by omega⟩)
            | (exfalso; omega)
          · refine gX_iconst dX12_takeBar_57 ⟨by decide, by decide⟩ ?_
            refine gX_goto (tgt := 62) dX12_takeBar_58 (by decide) ?_
            refine gX_aloadn dX12_takeBar_62 rfl ?_
            refine gX_gI 18 dX12_takeBar_63 fdX12_167 rfl (Or.inl rfl) hM.1 ?_
            rw [ha]
            refine gX_virt (J := iX12_fails) (av := [gi 4, gi t.1]) (a := 775) (st := []) dX12_takeBar_66 lkX12_178 kX12_fails vX12_fails (gFit_m (by decide)) hM.1 rfl rfl (Nat.le_of_ble_eq_true rfl) (Nat.zero_le _) (Nat.zero_le _) rfl ?_
            refine m_fails hM ?_
            show gX l E _ 69 [some (ga 775), none, none] [gi 4] (K, R, gup V 775 17 t.1) _ _
            refine gX_iret dX12_takeBar_69 (Or.inl rfl) ?_
            have er := sgG (tx := tx) (st := st) (lf := lf) hpk hc ho.2
            rw [if_pos okg] at er
            refine hQ _ _ (tkF.rf.uf (by omega)) (Or.inl ?_)
            first
            | (rw [if_pos (show 20 ≤ gs.length by omega)] at er; rw [er]; exact ⟨rfl, gup_s, rfl, by omega⟩)
            | (rw [if_neg (show ¬ 20 ≤ gs.length by omega), if_pos (hdp.mpr (by omega))] at er; rw [er]; exact ⟨rfl, gup_s, rfl, by omega⟩)
            | (exfalso; omega)
    · refine gX_aloadn dX12_takeBar_14 rfl ?_
      refine gX_iconst dX12_takeBar_15 ⟨by decide, by decide⟩ ?_
      refine gX_aloadn dX12_takeBar_16 rfl ?_
      refine gX_gI 18 dX12_takeBar_17 fdX12_167 rfl (Or.inl rfl) hM.1 ?_
      rw [ha]
      refine gX_virt (J := iX12_fails) (av := [gi 1, gi t.1]) (a := 775) (st := []) dX12_takeBar_20 lkX12_178 kX12_fails vX12_fails (gFit_m (by decide)) hM.1 rfl rfl (Nat.le_of_ble_eq_true rfl) (Nat.zero_le _) (Nat.zero_le _) rfl ?_
      refine m_fails hM ?_
      show gX l E _ 23 [some (ga 775), none, none] [gi 1] (K, R, gup V 775 17 t.1) _ _
      refine gX_iret dX12_takeBar_23 (Or.inl rfl) ?_
      have er := sgG (tx := tx) (st := st) (lf := lf) hpk hc ho.2
      rw [if_neg (by rcases cs with z | z | z | z | z <;> omega)] at er
      refine hQ _ _ (tkF.rf.uf (by omega)) (Or.inl ?_)
      rw [er]
      exact ⟨rfl, gup_s, rfl, by omega⟩
end MD35
