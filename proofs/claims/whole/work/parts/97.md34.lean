/-! The reference: reading a book, step by step. Written by wip/whole/tools/mk_md34.py. -/
/-- only the book at work and the reading's cells changed -/
def tkF (V V' : Int → Int → Int) : Prop := (∀ a k, ¬ (776 ≤ a ∧ a ≤ 785 ∧ inSl 10 a k) → a ≠ 791 → a ≠ 792 → ¬ (a = 775 ∧ 17 ≤ k ∧ k ≤ 28) → V' a k = V a k)
theorem tkF.rf {V : Int → Int → Int} : tkF V V := fun _ _ _ _ _ _ => rfl
theorem tkF.trans {V V1 V2 : Int → Int → Int} (h : tkF V V1) (h2 : tkF V1 V2) : tkF V V2 := fun a k a1 a2 a3 a4 => (h2 a k a1 a2 a3 a4).trans (h a k a1 a2 a3 a4)
theorem tkF.uf {V V1 : Int → Int → Int} (h : tkF V V1) {k x : Int} (hk : 17 ≤ k ∧ k ≤ 28) : tkF V (gup V1 775 k x) := h.trans (fun a k' a1 a2 a3 a4 => gup_c (by omega))
theorem tkF.us {V V1 : Int → Int → Int} (h : tkF V V1) {a k x : Int} (ha : a = 791 ∨ a = 792) : tkF V (gup V1 a k x) := h.trans (fun a' k' a1 a2 a3 a4 => gup_c (by omega))
theorem tkF.ub {V V1 : Int → Int → Int} (h : tkF V V1) {a k x : Int} (ha : 776 ≤ a ∧ a ≤ 785) (hk : inSl 10 a k) : tkF V (gup V1 a k x) := h.trans (fun a' k' a1 a2 a3 a4 => gup_c (by
  by_cases c : a' = a
  · right; intro z; subst c; subst z; exact a1 ⟨ha.1, ha.2, hk⟩
  · left; exact c))
theorem rdR.tk {V V' : Int → Int → Int} (h : rdR V V') : tkF V V' := fun a k a1 a2 a3 a4 => by
  by_cases c : a = 775
  · subst c; exact h.2 k (by omega) (by omega) (by omega) (by omega)
  · rw [h.1 a c]
theorem tdIs.tk {V V' : Int → Int → Int} {ys : List Int} (h : tdIs V ys) (hf : tkF V V') : tdIs V' ys := ⟨by rw [hf 775 16 (by omega) (by omega) (by omega) (by omega)]; exact h.1, h.2.1, fun j x hj => by rw [hf 790 _ (by omega) (by omega) (by omega) (by omega)]; exact h.2.2 j x hj⟩
/-- rows no longer than their kind allows -/
def kiG (gs : List gG) : Prop := ∀ g : Int, 0 ≤ g → g < gs.length → (gq gs g).2.2.2.2.2.length ≤ (if (gq gs g).1 = 0 then 4 else 8)
theorem spU_ne {V : Int → Int → Int} {b h i x a : Int} (h1 : a ≠ 778) (h2 : a ≠ 785) : spU V b h i x a = V a := by
  unfold spU
  split
  · exact gup_ne h1
  · exact gup_ne h2
theorem rbIs.addt {V : Int → Int → Int} {tx : List Int} {gs : List gG} {w : Int} (h : rbIs V 10 tx gs) (hl : tx.length < 40) : rbIs (gup (gup V 777 (400 + tx.length) w) 776 10 (tx.length + 1)) 10 (tx ++ [w]) gs := by
  have e : ((tx ++ [w]).length : Int) = tx.length + 1 := by rw [List.length_append]; rfl
  refine h.txt rfl (fun k k0 k1 => ⟨rfl, rfl, rfl⟩) (by rw [e]; exact gup_s) (by rw [List.length_append]; show tx.length + 1 ≤ 40; omega) (fun j j0 j1 => ?_) (fun a a1 a2 a3 _ => by rw [gup_ne a1, gup_ne a2])
  rw [gup_ne (by omega)]
  by_cases c : j = tx.length
  · rw [c, lat_app_s rfl]; exact gup_s
  · rw [gup_c (Or.inr (by omega)), lat_app_l j0 (by omega)]; exact h.wd j0 (by omega)
theorem rbIs.addr {V : Int → Int → Int} {tx : List Int} {gs : List gG} {w op : Int} (h : rbIs V 10 tx gs) (h0 : 0 ≤ op) (h1 : op < gs.length) (hl : (gq gs op).2.2.2.2.2.length < 8) : rbIs (gup (gup V 784 (8 * (200 + op) + (gq gs op).2.2.2.2.2.length) w) 783 (200 + op) ((gq gs op).2.2.2.2.2.length + 1)) 10 tx (gs.set op.toNat (rwG (gq gs op) ((gq gs op).2.2.2.2.2 ++ [w]))) := by
  have h20 := h.2.2.2.2.1
  refine ⟨by rw [gup_ne (by omega), gup_ne (by omega)]; exact h.1, h.2.1, fun j x hx => by rw [gup_ne (by omega), gup_ne (by omega)]; exact h.2.2.1 j x hx, by rw [gup_ne (by omega), gup_ne (by omega), List.length_set]; exact h.2.2.2.1, by rw [List.length_set]; exact h20, fun k q hq => ?_⟩
  have k1 : k < gs.length := by
    have := (List.getElem?_eq_some_iff.mp hq).1
    rw [List.length_set] at this
    exact this
  by_cases c : k = op.toNat
  · subst c
    rw [List.getElem?_set_self k1] at hq
    cases hq
    have g := h.gl h0 h1
    have ek : (20 * 10 + (op.toNat : Int)) = 200 + op := by omega
    rw [ek]
    refine ⟨by rw [gup_ne (by omega), gup_ne (by omega)]; exact g.1, by rw [gup_ne (by omega), gup_ne (by omega)]; exact g.2.1, ?_, ?_, fun j x hx => ?_⟩
    · show _ = (((gq gs op).2.2.2.2.2 ++ [w]).length : Int); rw [List.length_append]; exact gup_s
    · show ((gq gs op).2.2.2.2.2 ++ [w]).length ≤ 8; rw [List.length_append]; exact hl
    · have hx : ((gq gs op).2.2.2.2.2 ++ [w])[j]? = some x := hx
      have hj := (List.getElem?_eq_some_iff.mp hx).1
      rw [List.length_append] at hj
      have hj : j < (gq gs op).2.2.2.2.2.length + 1 := hj
      rw [gup_ne (by omega)]
      by_cases cj : j = (gq gs op).2.2.2.2.2.length
      · rw [cj, List.getElem?_append_right (Nat.le_refl _), Nat.sub_self] at hx
        cases hx
        rw [cj]; exact gup_s
      · rw [List.getElem?_append_left (by omega)] at hx
        rw [gup_c (Or.inr (by omega))]
        exact g.2.2.2.2 j x hx
  · rw [List.getElem?_set_ne (fun z => c z.symm)] at hq
    have g := h.2.2.2.2.2 k q hq
    unfold rgIs at g ⊢
    refine ⟨by rw [gup_ne (by omega), gup_ne (by omega)]; exact g.1, by rw [gup_ne (by omega), gup_ne (by omega)]; exact g.2.1, by rw [gup_c (Or.inr (by omega)), gup_ne (by omega)]; exact g.2.2.1, g.2.2.2.1, fun j x hx => ?_⟩
    have hj := (List.getElem?_eq_some_iff.mp hx).1
    have := g.2.2.2.1
    rw [gup_ne (by omega), gup_c (Or.inr (by omega))]
    exact g.2.2.2.2 j x hx
theorem addW_t {tx : List Int} {gs : List gG} {op w : Int} (h : ¬ (0 ≤ op ∧ op < gs.length)) : addW tx gs op w = (tx ++ [w], gs) := by
  unfold addW
  rw [if_neg (fun z => h (inGt.mp z)), if_neg (fun z => h (inGt.mp z))]
theorem addW_g {tx : List Int} {gs : List gG} {op w : Int} (h : 0 ≤ op ∧ op < gs.length) : addW tx gs op w = (tx, gs.set op.toNat (rwG (gq gs op) ((gq gs op).2.2.2.2.2 ++ [w]))) := by
  unfold addW
  rw [if_pos (inGt.mpr h), if_pos (inGt.mpr h)]
theorem kiG.add {tx : List Int} {gs : List gG} {op w : Int} (h : kiG gs) (hr : ¬ roO gs op ≤ (rwL tx gs op).length) : kiG (addW tx gs op w).2 := fun g g0 g1 => by
  rw [addW_len] at g1
  rw [(addW_f g0).1, addW_q g0]
  have z := h g g0 g1
  by_cases c : g = op ∧ inG gs op = true
  · rw [if_pos c]
    have c2 := inGt.mp c.2
    have e1 : rwL tx gs op = (gq gs op).2.2.2.2.2 := if_pos c2
    have e2 : roO gs op = if (gq gs op).1 = 0 then 4 else 8 := by unfold roO; rw [if_pos c.2]
    rw [e1, e2] at hr
    rw [c.1]
    show ((gq gs op).2.2.2.2.2 ++ [w]).length ≤ _
    rw [List.length_append]
    show (gq gs op).2.2.2.2.2.length + 1 ≤ _
    split at hr
    · rename_i y; rw [if_pos y]; omega
    · rename_i y; rw [if_neg y]; omega
  · rw [if_neg c]; exact z
section MD34
variable {l : Launch} {E : gE} {d : Nat} {K : List gK} {R V : Int → Int → Int} {b h a st op lf : Int} {Q : gQ} {ys tx : List Int} {gs : List gG} {t : tS}
/-- what a step of the reading leaves -/
def tkP (V' : Int → Int → Int) (r : Int × bR) : Prop := (r.1 = 0 ∧ V' 775 17 = r.2.1.2.2.2 ∧ 0 < r.2.1.2.2.1) ∨ (r.1 = 1 ∧ r.2.1.2.2.1 = 0 ∧ r.2.1.2.2.2 = -1 ∧ V' 775 17 = -1 ∧ V' 775 18 = r.2.1.1 ∧ BI V' r.2.2.1 r.2.2.2.1 r.2.2.2.2.1 r.2.2.2.2.2.1 r.2.2.2.2.2.2 ∧ PI r.2.2.1 r.2.2.2.1 r.2.2.2.2.1 r.2.2.2.2.2.1 r.2.2.2.2.2.2 ∧ kiG r.2.2.2.1 ∧ V' 775 28 ≤ r.2.1.1)
theorem BI.sp {V : Int → Int → Int} (h : BI V tx gs st op lf) : V 775 24 = op ∧ V 775 26 = lmN st := ⟨h.2.1.2.1, h.2.1.2.2⟩
set_option maxRecDepth 4000 in
theorem m_takeWord (hM : mdK K R) (ht : tdIs V ys) (hB : BI V tx gs st op lf) (hP : PI tx gs st op lf) (hK : kiG gs) (h28 : V 775 28 ≤ t.1) (ha : V 775 18 = t.1) (h0 : 0 ≤ t.1) (h1 : t.1 ≤ ys.length) (hz : t.2.2.1 = 0 ∧ t.2.2.2 = -1 ∧ V 775 17 = -1) (hQ : ∀ V', tkF V V' → tkP V' (rdWord ys (t, tx, gs, st, op, lf)) → Q (some (gi (rdWord ys (t, tx, gs, st, op, lf)).2.1.2.2.1)) (K, R, V')) : gC l E (d + 3) iX12_takeWord [ga 775] (K, R, V) Q := by
  refine gC_of kX12_takeWord (ls := [some (ga 775), none, none]) rfl (Nat.le_of_ble_eq_true rfl) ?_
  have hs4 : ¬ st = 4 := by have := hP.1.2.1; omega
  have hcs0 := tkNum_cs (ys := ys) (low := 0) (high := 63) (t := t) (by omega) ⟨hz.1, hz.2.1⟩
  refine gX_aloadn dX12_takeWord_0 rfl ?_
  refine gX_iconst dX12_takeWord_1 ⟨by decide, by decide⟩ ?_
  refine gX_bipush dX12_takeWord_2 (by decide) ⟨by decide, by decide⟩ ?_
  refine gX_virt (J := iX12_takeNumber) (av := [gi 0, gi 63]) (a := 775) (st := []) dX12_takeWord_4 lkX12_188 kX12_takeNumber vX12_takeNumber (gFit_m (by decide)) hM.1 rfl rfl (Nat.le_of_ble_eq_true rfl) (Nat.zero_le _) (Nat.zero_le _) rfl ?_
  refine m_takeNumber (t := t) hM ht ha h0 h1 hz (fun V1 e18 e17 e1920 r1 => ?_)
  show gX l E _ 7 [some (ga 775), none, none] [gi ((tkNum ys 0 63 t).2.2.2.1)] (K, R, V1) _ _
  refine gX_istoren dX12_takeWord_7 (show (1 : Nat) < 3 from by decide) (ls2 := [some (ga 775), some (gi ((tkNum ys 0 63 t).2.2.2.1)), none]) rfl ?_
  refine gX_iloadn dX12_takeWord_8 rfl ?_
  refine gX_ifle (tgt := 14) dX12_takeWord_9 (by decide) (fun m1 => ?_) (fun m1 => ?_)
  · have hne : ¬ (tkNum ys 0 63 t).1 = -1 := by omega
    have hcs : 0 ≤ (tkNum ys 0 63 t).1 ∧ (tkNum ys 0 63 t).1 ≤ 63 ∧ (tkNum ys 0 63 t).2.2.2.1 = 0 ∧ (tkNum ys 0 63 t).2.2.2.2 = -1 := by rcases hcs0 with z | z; exfalso; omega; exact z
    obtain ⟨e19, e20⟩ := e1920 hcs.2.2.1
    have hb1 : rbIs V1 10 tx gs := by
      have z := hB.1
      unfold rbIs rgIs at z ⊢
      rw [r1.1 776 (by omega), r1.1 777 (by omega), r1.1 779 (by omega), r1.1 780 (by omega), r1.1 781 (by omega), r1.1 783 (by omega), r1.1 784 (by omega)]
      exact z
    have h24 : V1 775 24 = op := by rw [r1.2 24 (by omega) (by omega) (by omega) (by omega)]; exact hB.sp.1
    have h26 : V1 775 26 = lmN st := by rw [r1.2 26 (by omega) (by omega) (by omega) (by omega)]; exact hB.sp.2
    have hsz := hb1.hs (x := op) hP.1.1
    have h20 := hb1.2.2.2.2.1
    have ho := hP.1.1
    have hmx : (if op < 0 then (40 : Int) else if V1 780 (20 * 10 + op) = 0 then 4 else 8) = roO gs op := by
      unfold roO
      by_cases c : op < 0
      · rw [if_pos c, if_neg (fun z => by have := inGt.mp z; omega)]
      · rw [if_neg c, if_pos (inGt.mpr ⟨by omega, ho.2⟩), (hb1.gl (g := op) (by omega) ho.2).1]
    have hle : ((rwL tx gs op).length : Int) ≤ roO gs op := by
      unfold roO
      by_cases c : op < 0
      · rw [if_neg (fun z => by have := inGt.mp z; omega)]; omega
      · have e : rwL tx gs op = (gq gs op).2.2.2.2.2 := if_pos ⟨by omega, ho.2⟩
        have z := hK op (by omega) ho.2
        rw [if_pos (inGt.mpr ⟨by omega, ho.2⟩), e]
        split at z
        · rename_i y; rw [if_pos y]; omega
        · rename_i y; rw [if_neg y]; omega
    refine gX_aloadn dX12_takeWord_14 rfl ?_
    refine gX_bipush dX12_takeWord_15 (by decide) ⟨by decide, by decide⟩ ?_
    refine gX_aloadn dX12_takeWord_17 rfl ?_
    refine gX_gI 24 dX12_takeWord_18 fdX12_191 rfl (Or.inl rfl) hM.1 ?_
    rw [h24]
    refine gX_virt (J := iX12_hostSize) (av := [gi 10, gi op]) (a := 775) (st := []) dX12_takeWord_21 lkX12_194 kX12_hostSize vX12_hostSize (gFit_m (by decide)) hM.1 rfl rfl (Nat.le_of_ble_eq_true rfl) (Nat.zero_le _) (Nat.zero_le _) rfl ?_
    refine m_hostSize hM ⟨by omega, by omega⟩ (by omega) ?_
    show gX l E _ 24 [some (ga 775), some (gi ((tkNum ys 0 63 t).2.2.2.1)), none] [gi (hsA V1 10 op)] (K, R, V1) _ _
    rw [hsz.1]
    refine gX_istoren dX12_takeWord_24 (show (2 : Nat) < 3 from by decide) (ls2 := [some (ga 775), some (gi ((tkNum ys 0 63 t).2.2.2.1)), some (gi ((rwL tx gs op).length : Int))]) rfl ?_
    refine gX_iloadn dX12_takeWord_25 rfl ?_
    refine gX_aloadn dX12_takeWord_26 rfl ?_
    refine gX_bipush dX12_takeWord_27 (by decide) ⟨by decide, by decide⟩ ?_
    refine gX_aloadn dX12_takeWord_29 rfl ?_
    refine gX_gI 24 dX12_takeWord_30 fdX12_191 rfl (Or.inl rfl) hM.1 ?_
    rw [h24]
    refine gX_virt (J := iX12_hostMost) (av := [gi 10, gi op]) (a := 775) (st := [gi ((rwL tx gs op).length : Int)]) dX12_takeWord_33 lkX12_197 kX12_hostMost vX12_hostMost (gFit_m (by decide)) hM.1 rfl rfl (Nat.le_of_ble_eq_true rfl) (Nat.zero_le _) (Nat.zero_le _) rfl ?_
    refine m_hostMost hM ⟨by omega, by omega⟩ (by omega) ?_
    show gX l E _ 36 [some (ga 775), some (gi ((tkNum ys 0 63 t).2.2.2.1)), some (gi ((rwL tx gs op).length : Int))] [gi (if op < 0 then (40 : Int) else if V1 780 (20 * 10 + op) = 0 then 4 else 8), gi ((rwL tx gs op).length : Int)] (K, R, V1) _ _
    rw [hmx]
    refine gX_icmpne (tgt := 49) dX12_takeWord_36 (by decide) (fun m2 => ?_) (fun m2 => ?_)
    · have hro : ¬ roO gs op ≤ (rwL tx gs op).length := by omega
      have hr40 : roO gs op ≤ 40 ∧ (0 ≤ op → roO gs op ≤ 8) := by
        unfold roO
        by_cases c : op < 0
        · rw [if_neg (fun z => by have := inGt.mp z; omega)]; omega
        · rw [if_pos (inGt.mpr ⟨by omega, ho.2⟩)]; split <;> omega
      have h8 : 0 ≤ op → ((rwL tx gs op).length : Int) < 8 := fun z => by have := hr40.2 z; omega
      rw [show (tkNum ys 0 63 t).2.2.2.1 = 0 from hcs.2.2.1]
      have fin : ∀ (V2 : Int → Int → Int) (bc bs : Nat), rbIs V2 10 (addW tx gs op (tkNum ys 0 63 t).1).1 (addW tx gs op (tkNum ys 0 63 t).1).2 → (∀ a, a ≠ 776 ∧ a ≠ 777 ∧ a ≠ 783 ∧ a ≠ 784 → V2 a = V1 a) → tkF V V2 → gX l E (gFm E (d + 3) iX12_takeWord Q) 123 [some (ga 775), some (gi 0), some (gi ((rwL tx gs op).length : Int))] [] (K, R, V2) bc bs := by
        intro V2 bc bs hb2 hf2 hk2
        refine gX_aloadn dX12_takeWord_123 rfl ?_
        refine gX_bipush dX12_takeWord_124 (by decide) ⟨by decide, by decide⟩ ?_
        refine gX_aloadn dX12_takeWord_126 rfl ?_
        refine gX_gI 24 dX12_takeWord_127 fdX12_191 rfl (Or.inl rfl) hM.1 ?_
        rw [show V2 775 24 = op by rw [hf2 775 (by omega)]; exact h24]
        refine gX_iloadn dX12_takeWord_130 rfl ?_
        refine gX_aloadn dX12_takeWord_131 rfl ?_
        refine gX_gI 26 dX12_takeWord_132 fdX12_200 rfl (Or.inr rfl) hM.1 ?_
        rw [show V2 775 26 = lmN st by rw [hf2 775 (by omega)]; exact h26]
        refine gX_ifeq (tgt := 145) dX12_takeWord_135 (by decide) (fun f1 => ?_) (fun f1 => ?_)
        · refine gX_iconst dX12_takeWord_145 ⟨by decide, by decide⟩ ?_
          refine gX_virt (J := iX12_setSpan) (av := [gi 10, gi op, gi ((rwL tx gs op).length : Int), gi (-1)]) (a := 775) (st := []) dX12_takeWord_146 lkX12_207 kX12_setSpan vX12_setSpan (gFit_m (by decide)) hM.1 rfl rfl (Nat.le_of_ble_eq_true rfl) (Nat.zero_le _) (Nat.zero_le _) rfl ?_
          refine m_setSpan hM ⟨by omega, by omega⟩ (by omega) ⟨by omega, by omega⟩ (fun z => by have := h8 z; omega) ?_
          show gX l E _ 149 [some (ga 775), some (gi 0), some (gi ((rwL tx gs op).length : Int))] [] (K, R, spU V2 10 op ((rwL tx gs op).length : Int) (-1)) _ _
          refine gX_aloadn dX12_takeWord_149 rfl ?_
          refine gX_iconst dX12_takeWord_150 ⟨by decide, by decide⟩ ?_
          refine gX_pI 27 dX12_takeWord_151 fdX12_211 fpX12_211 rfl (Or.inr ⟨rfl, Or.inr rfl⟩) hM.1 ?_
          refine gX_iconst dX12_takeWord_154 ⟨by decide, by decide⟩ ?_
          refine gX_iret dX12_takeWord_155 (Or.inl rfl) ?_
          have er : rdWord ys (t, tx, gs, st, op, lf) = (1, (tkNum ys 0 63 t).2, (addW tx gs op (tkNum ys 0 63 t).1).1, (addW tx gs op (tkNum ys 0 63 t).1).2, (if st = 2 ∨ st = 3 then 3 else 0), op, lf) := by
            unfold rdWord
            rw [if_neg hs4, if_neg hne]
            show (if roO gs op ≤ (rwL tx gs op).length then _ else _) = _
            rw [if_neg hro]
            rfl
          rw [er] at hQ
          have e0 : ((1, (tkNum ys 0 63 t).2, (addW tx gs op (tkNum ys 0 63 t).1).1, (addW tx gs op (tkNum ys 0 63 t).1).2, (if st = 2 ∨ st = 3 then 3 else 0), op, lf) : Int × bR).2.1.2.2.1 = 0 := hcs.2.2.1
          rw [e0] at hQ
          have hcl : clF V2 (spU V2 10 op ((rwL tx gs op).length : Int) (-1)) := clF_spU (by omega) (by omega) (fun z => by have := h8 z; omega) (by omega)
          have hb3 : rbIs (gup (spU V2 10 op ((rwL tx gs op).length : Int) (-1)) 775 27 1) 10 (addW tx gs op (tkNum ys 0 63 t).1).1 (addW tx gs op (tkNum ys 0 63 t).1).2 := by
            have z := hb2.lk (V' := spU V2 10 op ((rwL tx gs op).length : Int) (-1)) rfl (fun _ _ _ => ⟨rfl, rfl, rfl⟩) (fun a a1 a2 a3 => hcl.1 a a1 a2)
            unfold rbIs rgIs at z ⊢
            rw [gup_ne (by omega), gup_ne (by omega), gup_ne (by omega), gup_ne (by omega), gup_ne (by omega), gup_ne (by omega), gup_ne (by omega)]
            exact z
          have hk3 : ∀ k, k ≠ 27 → k ≠ 17 → k ≠ 18 → k ≠ 19 → k ≠ 20 → (gup (spU V2 10 op ((rwL tx gs op).length : Int) (-1)) 775 27 1) 775 k = V 775 k := fun k k1 k2 k3 k4 k5 => by rw [gup_c (Or.inr k1), spU_ne (by omega) (by omega), hf2 775 (by omega)]; exact r1.2 k k2 k3 k4 k5
          have ho3 : ∀ a, a = 791 ∨ a = 792 ∨ a = 782 → (gup (spU V2 10 op ((rwL tx gs op).length : Int) (-1)) 775 27 1) a = V a := fun a ha => by rw [gup_ne (by omega), spU_ne (by omega) (by omega), hf2 a (by omega)]; exact r1.1 a (by omega)
          refine hQ (gup (spU V2 10 op ((rwL tx gs op).length : Int) (-1)) 775 27 1) ((hk2.trans ?_).uf (by omega)) (Or.inr ⟨rfl, hcs.2.2.1, hcs.2.2.2, ?_, ?_, ?_, ?_, ?_, ?_⟩)
          · intro a k a1 a2 a3 a4
            by_cases c1 : a = 778
            · subst c1; exact hcl.2.1 k (fun z => a1 (by unfold inSl; omega))
            · by_cases c2 : a = 785
              · subst c2; exact hcl.2.2 k (fun z => a1 (by unfold inSl; omega))
              · rw [hcl.1 a c1 c2]
          · rw [gup_c (Or.inr (by omega)), spU_ne (by omega) (by omega), hf2 775 (by omega), e17]; exact hcs.2.2.2
          · rw [gup_c (Or.inr (by omega)), spU_ne (by omega) (by omega), hf2 775 (by omega)]; exact e18
          · refine hB.word hP hb3 (fun k hk => hk3 k (by omega) (by omega) (by omega) (by omega) (by omega)) gup_s (ho3 791 (by omega)) (ho3 792 (by omega)) (ho3 782 (by omega)) (fun x i x0 x1 i0 i1 => ?_)
            have hx := hb2.hs (x := x) ⟨x0, by rw [addW_len]; exact x1⟩
            have e9 : spA (gup (spU V2 10 op ((rwL tx gs op).length : Int) (-1)) 775 27 1) 10 x i = spA (spU V2 10 op ((rwL tx gs op).length : Int) (-1)) 10 x i := by unfold spA; rw [gup_ne (by omega), gup_ne (by omega)]
            rw [e9, spA_spU (by omega) (by omega) (fun z => by have := h8 z; omega) x0 (by omega) i0 (by omega) (fun z => by have := hx.2.2 z; omega) ⟨by omega, by omega⟩]
            have e8 : spA V2 10 x i = spA V 10 x i := by unfold spA; rw [hf2 778 (by omega), hf2 785 (by omega), r1.1 778 (by omega), r1.1 785 (by omega)]
            rw [e8]
            by_cases cx : x = op ∧ i = (rwL tx gs op).length
            · rw [if_pos cx, if_pos cx]; rw [if_neg (fun z => by have := lmN_cs st; rcases this with y | y; omega; rw [y.1] at z; cases z)]
            · rw [if_neg cx, if_neg cx]
          · exact hP.word ⟨hcs.1, hcs.2.1⟩
          · exact hK.add hro
          · rw [hk3 28 (by omega) (by omega) (by omega) (by omega) (by omega)]
            have := tkNum_ge (ys := ys) (lo := 0) (hi := 63) h0 h1
            show V 775 28 ≤ (tkNum ys 0 63 t).2.1
            omega
        · refine gX_aloadn dX12_takeWord_138 rfl ?_
          refine gX_gI 25 dX12_takeWord_139 fdX12_204 rfl (Or.inl rfl) hM.1 ?_
          rw [show V2 775 25 = V1 775 25 by rw [hf2 775 (by omega)]]
          refine gX_goto (tgt := 146) dX12_takeWord_142 (by decide) ?_
          refine gX_virt (J := iX12_setSpan) (av := [gi 10, gi op, gi ((rwL tx gs op).length : Int), gi (V1 775 25)]) (a := 775) (st := []) dX12_takeWord_146 lkX12_207 kX12_setSpan vX12_setSpan (gFit_m (by decide)) hM.1 rfl rfl (Nat.le_of_ble_eq_true rfl) (Nat.zero_le _) (Nat.zero_le _) rfl ?_
          refine m_setSpan hM ⟨by omega, by omega⟩ (by omega) ⟨by omega, by omega⟩ (fun z => by have := h8 z; omega) ?_
          show gX l E _ 149 [some (ga 775), some (gi 0), some (gi ((rwL tx gs op).length : Int))] [] (K, R, spU V2 10 op ((rwL tx gs op).length : Int) (V1 775 25)) _ _
          refine gX_aloadn dX12_takeWord_149 rfl ?_
          refine gX_iconst dX12_takeWord_150 ⟨by decide, by decide⟩ ?_
          refine gX_pI 27 dX12_takeWord_151 fdX12_211 fpX12_211 rfl (Or.inr ⟨rfl, Or.inr rfl⟩) hM.1 ?_
          refine gX_iconst dX12_takeWord_154 ⟨by decide, by decide⟩ ?_
          refine gX_iret dX12_takeWord_155 (Or.inl rfl) ?_
          have er : rdWord ys (t, tx, gs, st, op, lf) = (1, (tkNum ys 0 63 t).2, (addW tx gs op (tkNum ys 0 63 t).1).1, (addW tx gs op (tkNum ys 0 63 t).1).2, (if st = 2 ∨ st = 3 then 3 else 0), op, lf) := by
            unfold rdWord
            rw [if_neg hs4, if_neg hne]
            show (if roO gs op ≤ (rwL tx gs op).length then _ else _) = _
            rw [if_neg hro]
            rfl
          rw [er] at hQ
          have e0 : ((1, (tkNum ys 0 63 t).2, (addW tx gs op (tkNum ys 0 63 t).1).1, (addW tx gs op (tkNum ys 0 63 t).1).2, (if st = 2 ∨ st = 3 then 3 else 0), op, lf) : Int × bR).2.1.2.2.1 = 0 := hcs.2.2.1
          rw [e0] at hQ
          have hcl : clF V2 (spU V2 10 op ((rwL tx gs op).length : Int) (V1 775 25)) := clF_spU (by omega) (by omega) (fun z => by have := h8 z; omega) (by omega)
          have hb3 : rbIs (gup (spU V2 10 op ((rwL tx gs op).length : Int) (V1 775 25)) 775 27 1) 10 (addW tx gs op (tkNum ys 0 63 t).1).1 (addW tx gs op (tkNum ys 0 63 t).1).2 := by
            have z := hb2.lk (V' := spU V2 10 op ((rwL tx gs op).length : Int) (V1 775 25)) rfl (fun _ _ _ => ⟨rfl, rfl, rfl⟩) (fun a a1 a2 a3 => hcl.1 a a1 a2)
            unfold rbIs rgIs at z ⊢
            rw [gup_ne (by omega), gup_ne (by omega), gup_ne (by omega), gup_ne (by omega), gup_ne (by omega), gup_ne (by omega), gup_ne (by omega)]
            exact z
          have hk3 : ∀ k, k ≠ 27 → k ≠ 17 → k ≠ 18 → k ≠ 19 → k ≠ 20 → (gup (spU V2 10 op ((rwL tx gs op).length : Int) (V1 775 25)) 775 27 1) 775 k = V 775 k := fun k k1 k2 k3 k4 k5 => by rw [gup_c (Or.inr k1), spU_ne (by omega) (by omega), hf2 775 (by omega)]; exact r1.2 k k2 k3 k4 k5
          have ho3 : ∀ a, a = 791 ∨ a = 792 ∨ a = 782 → (gup (spU V2 10 op ((rwL tx gs op).length : Int) (V1 775 25)) 775 27 1) a = V a := fun a ha => by rw [gup_ne (by omega), spU_ne (by omega) (by omega), hf2 a (by omega)]; exact r1.1 a (by omega)
          refine hQ (gup (spU V2 10 op ((rwL tx gs op).length : Int) (V1 775 25)) 775 27 1) ((hk2.trans ?_).uf (by omega)) (Or.inr ⟨rfl, hcs.2.2.1, hcs.2.2.2, ?_, ?_, ?_, ?_, ?_, ?_⟩)
          · intro a k a1 a2 a3 a4
            by_cases c1 : a = 778
            · subst c1; exact hcl.2.1 k (fun z => a1 (by unfold inSl; omega))
            · by_cases c2 : a = 785
              · subst c2; exact hcl.2.2 k (fun z => a1 (by unfold inSl; omega))
              · rw [hcl.1 a c1 c2]
          · rw [gup_c (Or.inr (by omega)), spU_ne (by omega) (by omega), hf2 775 (by omega), e17]; exact hcs.2.2.2
          · rw [gup_c (Or.inr (by omega)), spU_ne (by omega) (by omega), hf2 775 (by omega)]; exact e18
          · refine hB.word hP hb3 (fun k hk => hk3 k (by omega) (by omega) (by omega) (by omega) (by omega)) gup_s (ho3 791 (by omega)) (ho3 792 (by omega)) (ho3 782 (by omega)) (fun x i x0 x1 i0 i1 => ?_)
            have hx := hb2.hs (x := x) ⟨x0, by rw [addW_len]; exact x1⟩
            have e9 : spA (gup (spU V2 10 op ((rwL tx gs op).length : Int) (V1 775 25)) 775 27 1) 10 x i = spA (spU V2 10 op ((rwL tx gs op).length : Int) (V1 775 25)) 10 x i := by unfold spA; rw [gup_ne (by omega), gup_ne (by omega)]
            rw [e9, spA_spU (by omega) (by omega) (fun z => by have := h8 z; omega) x0 (by omega) i0 (by omega) (fun z => by have := hx.2.2 z; omega) ⟨by omega, by omega⟩]
            have e8 : spA V2 10 x i = spA V 10 x i := by unfold spA; rw [hf2 778 (by omega), hf2 785 (by omega), r1.1 778 (by omega), r1.1 785 (by omega)]
            rw [e8]
            by_cases cx : x = op ∧ i = (rwL tx gs op).length
            · rw [if_pos cx, if_pos cx]; rw [if_pos (by have := lmN_cs st; by_cases z : isLm st = true; exact z; exfalso; rcases this with y | y; exact z y.1; omega)]; exact r1.2 25 (by omega) (by omega) (by omega) (by omega)
            · rw [if_neg cx, if_neg cx]
          · exact hP.word ⟨hcs.1, hcs.2.1⟩
          · exact hK.add hro
          · rw [hk3 28 (by omega) (by omega) (by omega) (by omega) (by omega)]
            have := tkNum_ge (ys := ys) (lo := 0) (hi := 63) h0 h1
            show V 775 28 ≤ (tkNum ys 0 63 t).2.1
            omega
      refine gX_aloadn dX12_takeWord_49 rfl ?_
      refine gX_gI 24 dX12_takeWord_50 fdX12_191 rfl (Or.inl rfl) hM.1 ?_
      rw [h24]
      refine gX_ifge (tgt := 84) dX12_takeWord_53 (by decide) (fun m3 => ?_) (fun m3 => ?_)
      · refine gX_aloadn dX12_takeWord_84 rfl ?_
        refine gX_gR 9 dX12_takeWord_85 fdX12_34 rfl rfl hM.1 (mR9 hM) ?_
        refine gX_bipush dX12_takeWord_88 (by decide) ⟨by decide, by decide⟩ ?_
        refine gX_sipush dX12_takeWord_90 (by decide) ⟨by decide, by decide⟩ ?_
        refine gX_aloadn dX12_takeWord_93 rfl ?_
        refine gX_gI 24 dX12_takeWord_94 fdX12_191 rfl (Or.inl rfl) hM.1 ?_
        rw [h24]
        refine gX_iadd dX12_takeWord_97 ⟨by omega, by omega⟩ ?_
        refine gX_imul dX12_takeWord_98 ⟨by omega, by omega⟩ ?_
        refine gX_iloadn dX12_takeWord_99 rfl ?_
        refine gX_iadd dX12_takeWord_100 ⟨by omega, by omega⟩ ?_
        refine gX_aloadn dX12_takeWord_101 rfl ?_
        refine gX_gI 19 dX12_takeWord_102 fdX12_185 rfl (Or.inl rfl) hM.1 ?_
        rw [e19]
        refine gX_iast dX12_takeWord_105 (mA9 hM) (by omega) (by omega) ?_
        refine gX_aloadn dX12_takeWord_106 rfl ?_
        refine gX_gR 8 dX12_takeWord_107 fdX12_31 rfl rfl hM.1 (mR8 hM) ?_
        refine gX_sipush dX12_takeWord_110 (by decide) ⟨by decide, by decide⟩ ?_
        refine gX_aloadn dX12_takeWord_113 rfl ?_
        refine gX_gI 24 dX12_takeWord_114 fdX12_191 rfl (Or.inl rfl) hM.1 ?_
        rw [show gup V1 784 ((8 * (200 + op)) + ((rwL tx gs op).length : Int)) ((tkNum ys 0 63 t).1) 775 24 = op by rw [gup_ne (by omega)]; exact h24]
        refine gX_iadd dX12_takeWord_117 ⟨by omega, by omega⟩ ?_
        refine gX_dup2 dX12_takeWord_118 rfl rfl ?_
        refine gX_iald dX12_takeWord_119 (mA8 hM) (by omega) (by omega) ?_
        rw [show gup V1 784 ((8 * (200 + op)) + ((rwL tx gs op).length : Int)) ((tkNum ys 0 63 t).1) 783 (200 + op) = ((rwL tx gs op).length : Int) by rw [gup_ne (by omega)]; have z : rwL tx gs op = (gq gs op).2.2.2.2.2 := if_pos ⟨by omega, ho.2⟩; rw [z]; exact (hb1.gl (g := op) (by omega) ho.2).2.2.1]
        refine gX_iconst dX12_takeWord_120 ⟨by decide, by decide⟩ ?_
        refine gX_iadd dX12_takeWord_121 ⟨by omega, by omega⟩ ?_
        refine gX_iast dX12_takeWord_122 (mA8 hM) (by omega) (by omega) ?_
        have eA := addW_g (tx := tx) (w := (tkNum ys 0 63 t).1) (show 0 ≤ op ∧ op < gs.length by omega)
        have erl : rwL tx gs op = (gq gs op).2.2.2.2.2 := if_pos ⟨by omega, by omega⟩
        refine fin (gup (gup V1 784 ((8 * (200 + op)) + ((rwL tx gs op).length : Int)) ((tkNum ys 0 63 t).1)) 783 (200 + op) (((rwL tx gs op).length : Int) + 1)) _ _ ?_ (fun a ha => by rw [gup_ne (by omega), gup_ne (by omega)]) ((r1.tk.ub (by omega) (by unfold inSl; omega)).ub (by omega) (by unfold inSl; omega))
        rw [eA, erl]
        exact hb1.addr (by omega) (by omega) (by have := h8 (by omega); rw [erl] at this; omega)
      · refine gX_aloadn dX12_takeWord_56 rfl ?_
        refine gX_gR 2 dX12_takeWord_57 fdX12_13 rfl rfl hM.1 (mR2 hM) ?_
        refine gX_sipush dX12_takeWord_60 (by decide) ⟨by decide, by decide⟩ ?_
        refine gX_iloadn dX12_takeWord_63 rfl ?_
        refine gX_iadd dX12_takeWord_64 ⟨by omega, by omega⟩ ?_
        refine gX_aloadn dX12_takeWord_65 rfl ?_
        refine gX_gI 19 dX12_takeWord_66 fdX12_185 rfl (Or.inl rfl) hM.1 ?_
        rw [e19]
        refine gX_iast dX12_takeWord_69 (mA2 hM) (by omega) (by omega) ?_
        refine gX_aloadn dX12_takeWord_70 rfl ?_
        refine gX_gR 1 dX12_takeWord_71 fdX12_7 rfl rfl hM.1 (mR1 hM) ?_
        refine gX_bipush dX12_takeWord_74 (by decide) ⟨by decide, by decide⟩ ?_
        refine gX_dup2 dX12_takeWord_76 rfl rfl ?_
        refine gX_iald dX12_takeWord_77 (mA1 hM) (by omega) (by omega) ?_
        rw [show gup V1 777 (400 + ((rwL tx gs op).length : Int)) ((tkNum ys 0 63 t).1) 776 10 = ((rwL tx gs op).length : Int) by rw [gup_ne (by omega), hb1.1]; have z : rwL tx gs op = tx := if_neg (by omega); rw [z]]
        refine gX_iconst dX12_takeWord_78 ⟨by decide, by decide⟩ ?_
        refine gX_iadd dX12_takeWord_79 ⟨by omega, by omega⟩ ?_
        refine gX_iast dX12_takeWord_80 (mA1 hM) (by omega) (by omega) ?_
        refine gX_goto (tgt := 123) dX12_takeWord_81 (by decide) ?_
        have eA : (addW tx gs op (tkNum ys 0 63 t).1) = (tx ++ [(tkNum ys 0 63 t).1], gs) := addW_t (by omega)
        have erl : rwL tx gs op = tx := if_neg (by omega)
        refine fin (gup (gup V1 777 (400 + ((rwL tx gs op).length : Int)) ((tkNum ys 0 63 t).1)) 776 10 (((rwL tx gs op).length : Int) + 1)) _ _ ?_ (fun a ha => by rw [gup_ne (by omega), gup_ne (by omega)]) ((r1.tk.ub (by omega) (by unfold inSl; omega)).ub (by omega) (by unfold inSl; omega))
        rw [eA, erl]
        exact hb1.addt (by have z := hro; have := hr40.1; rw [erl] at z; omega)
    · refine gX_aloadn dX12_takeWord_39 rfl ?_
      refine gX_iconst dX12_takeWord_40 ⟨by decide, by decide⟩ ?_
      refine gX_aloadn dX12_takeWord_41 rfl ?_
      refine gX_gI 20 dX12_takeWord_42 fdX12_182 rfl (Or.inl rfl) hM.1 ?_
      rw [e20]
      refine gX_virt (J := iX12_fails) (av := [gi 3, gi ((tkNum ys 0 63 t).2.2.1)]) (a := 775) (st := []) dX12_takeWord_45 lkX12_178 kX12_fails vX12_fails (gFit_m (by decide)) hM.1 rfl rfl (Nat.le_of_ble_eq_true rfl) (Nat.zero_le _) (Nat.zero_le _) rfl ?_
      refine m_fails hM ?_
      show gX l E _ 48 [some (ga 775), some (gi ((tkNum ys 0 63 t).2.2.2.1)), some (gi ((rwL tx gs op).length : Int))] [gi 3] (K, R, gup V1 775 17 (tkNum ys 0 63 t).2.2.1) _ _
      refine gX_iret dX12_takeWord_48 (Or.inl rfl) ?_
      have er : rdWord ys (t, tx, gs, st, op, lf) = (0, bF 3 (tkNum ys 0 63 t).2.2.1 ((tkNum ys 0 63 t).2, tx, gs, st, op, lf)) := by
        unfold rdWord
        rw [if_neg hs4, if_neg hne]
        show (if roO gs op ≤ (rwL tx gs op).length then _ else _) = _
        rw [if_pos (by omega)]
      rw [er] at hQ
      exact hQ _ (r1.tk.uf (by omega)) (Or.inl ⟨rfl, gup_s, by show (0 : Int) < 3; omega⟩)
  · refine gX_iloadn dX12_takeWord_12 rfl ?_
    refine gX_iret dX12_takeWord_13 (Or.inl rfl) ?_
    have er : rdWord ys (t, tx, gs, st, op, lf) = (0, (tkNum ys 0 63 t).2, tx, gs, st, op, lf) := by
      unfold rdWord
      rw [if_neg hs4, if_pos (show (tkNum ys 0 63 t).1 = -1 by omega)]
    rw [er] at hQ
    exact hQ V1 r1.tk (Or.inl ⟨rfl, e17, by show 0 < (tkNum ys 0 63 t).2.2.2.1; omega⟩)
end MD34
