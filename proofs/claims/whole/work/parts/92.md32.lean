/-! The reference: walk, print, renumber. Written by wip/whole/tools/mk_md32.py. -/
theorem RI.ini {tx : List Int} {gs : List gG} (hl : lsW tx gs) : RI gs (-1) 0 0 0 := by
  refine ⟨⟨by omega, by omega, by omega, by omega⟩, fun j j0 j1 hj => ⟨fun z => ?_, fun z => j0⟩, fun j j0 j1 h1 h2 => by omega, fun j h1 h2 => by omega⟩
  have := (hl.at j0 j1).1
  omega
section MD32
variable {l : Launch} {E : gE} {d : Nat} {K : List gK} {R V : Int → Int → Int} {b i n t : Int} {Q : gQ} {S : gbS} {s : cS} {tx : List Int} {gs : List gG} {e : Int → Int} {j2 j3 : Option gV} {bc bs : Nat}
set_option maxRecDepth 4000 in
theorem walk_end (hM : mdK K R) (h50 : V 775 50 = 0) (hQ : Q none (K, R, V)) : gX l E (gFm E (d + 4) iX12_walk Q) 20 [some (ga 775), some (gi b), j2, j3] [] (K, R, V) bc bs := by
  refine gX_aloadn dX12_walk_20 rfl ?_
  refine gX_gI 50 dX12_walk_21 fdX12_312 rfl (Or.inl rfl) hM.1 ?_
  rw [h50]
  refine gX_ifle (tgt := 199) dX12_walk_24 (by decide) (fun m1 => ?_) (fun m1 => by exfalso; omega)
  refine gX_vret dX12_walk_199 rfl ?_
  exact hQ
set_option maxRecDepth 4000 in
theorem m_walk (hM : mdK K R) (hv : wV V b tx gs n e) (hp : PO gs) (hl : lsW tx gs) (hw : hoW gs) (hwd : wdW tx gs) (hdp : ∀ g : Int, 0 ≤ g → g < gs.length → dpt gs 21 g ≤ 4) (hQ : ∀ V', wlF V V' → oI V' e gs.length → pI V' (prR (ladd 700) tx gs 5 (-1) (0, [])).2 → ((prR (ladd 700) tx gs 5 (-1) (0, [])).2.length : Int) ≤ 690 → Q none (K, R, V')) : gC l E (d + 4) iX12_walk [ga 775, gi b] (K, R, V) Q := by
  refine gC_of kX12_walk (ls := [some (ga 775), some (gi b), none, none]) rfl (Nat.le_of_ble_eq_true rfl) ?_
  refine gX_aloadn dX12_walk_0 rfl ?_
  refine gX_iconst dX12_walk_1 ⟨by decide, by decide⟩ ?_
  refine gX_pI 50 dX12_walk_2 fdX12_312 fpX12_312 rfl (Or.inl rfl) hM.1 ?_
  refine gX_aloadn dX12_walk_5 rfl ?_
  refine gX_iconst dX12_walk_6 ⟨by decide, by decide⟩ ?_
  refine gX_pI 53 dX12_walk_7 fdX12_327 fpX12_327 rfl (Or.inl rfl) hM.1 ?_
  refine gX_aloadn dX12_walk_10 rfl ?_
  refine gX_iconst dX12_walk_11 ⟨by decide, by decide⟩ ?_
  refine gX_pI 55 dX12_walk_12 fdX12_315 fpX12_315 rfl (Or.inl rfl) hM.1 ?_
  refine gX_aloadn dX12_walk_15 rfl ?_
  refine gX_iconst dX12_walk_16 ⟨by decide, by decide⟩ ?_
  refine gX_virt (J := iX12_enter) (av := [gi (-1)]) (a := 775) (st := []) dX12_walk_17 lkX12_330 kX12_enter vX12_enter (gFit_m (by decide)) hM.1 rfl rfl (Nat.le_of_ble_eq_true rfl) (Nat.zero_le _) (Nat.zero_le _) rfl ?_
  refine m_enter (D := 0) hM (by rw [gup_c (Or.inr (by omega)), gup_c (Or.inr (by omega))]; exact gup_s) (by omega) ?_
  show gX l E _ 20 [some (ga 775), some (gi b), none, none] [] (K, R, gup (gup (gup (gup (gup (gup (gup (gup V 775 50 0) 775 53 0) 775 55 0) 805 0 (-1)) 806 0 0) 807 0 (-1)) 808 0 (-1)) 775 50 (0 + 1)) _ _
  have h0 := hv.1 (-1) (by omega) (by omega)
  rw [rwL_n] at h0
  have g20 := hv.2.2.2.2.2.2.2
  have w0 : wlF V (gup (gup (gup (gup (gup (gup (gup (gup V 775 50 0) 775 53 0) 775 55 0) 805 0 (-1)) 806 0 0) 807 0 (-1)) 808 0 (-1)) 775 50 (0 + 1)) := ((((((((wlF.rf.uf (Or.inl rfl)).uf (Or.inr (Or.inl rfl))).uf (Or.inr (Or.inr rfl))).u (by omega) (by omega)).u (by omega) (by omega)).u (by omega) (by omega)).u (by omega) (by omega)).uf (Or.inl rfl))
  refine walk_all hM hv hp hl hw hwd hdp 4 (-1) 0 0 0 41 0 0 [] _ _ _ _ _ w0 gup_s ?_ ?_ ?_ ⟨?_, fun k k0 k1 => by omega⟩ ⟨?_, fun j x hx => ?_⟩ (RI.ini hl) ⟨by omega, by omega⟩ (by rw [rwL_n]; omega) ⟨by omega, by omega, dpt_m⟩ (by rw [rwL_n]; show ((0 : Nat) : Int) + _ + _ + _ ≤ _; omega) (by omega) (fun V2 N' out' k2 k3 bc bs e1 e2 e3 e4 e5 e6 e7 e8 => ?_)
  · rw [gup_ne (by omega), gup_ne (by omega), gup_ne (by omega), gup_ne (by omega)]; exact gup_s.trans (if_pos (by omega)).symm
  · rw [gup_ne (by omega), gup_ne (by omega), gup_ne (by omega)]; exact gup_s
  · rw [gup_ne (by omega), gup_ne (by omega)]; exact gup_s
  · rw [gup_c (Or.inr (by omega)), gup_ne (by omega), gup_ne (by omega), gup_ne (by omega), gup_ne (by omega), gup_c (Or.inr (by omega))]; exact gup_s
  · rw [gup_c (Or.inr (by omega)), gup_ne (by omega), gup_ne (by omega), gup_ne (by omega), gup_ne (by omega)]; exact gup_s
  · cases hx
  · rw [rwL_n] at e7
    have eN := e7.end hl hw
    subst eN
    refine walk_end hM e4 (hQ V2 e2 e5 ?_ ?_)
    · have e9 : prR (ladd 700) tx gs 5 (-1) (0, []) = ((gs.length : Int), out') := e1
      rw [e9]; exact e6
    · have e9 : prR (ladd 700) tx gs 5 (-1) (0, []) = ((gs.length : Int), out') := e1
      rw [e9]; show (out'.length : Int) ≤ 690; omega
theorem pI.at {out : pO} (h : pI V out) (h0 : 0 ≤ i) (h1 : i < out.length) : V 811 i = lat out i := by
  have := h.2 i.toNat _ (List.getElem?_eq_getElem (by omega))
  rw [Int.toNat_of_nonneg h0] at this
  rw [this, lat_in h0 (by omega)]
set_option maxRecDepth 4000 in
theorem m_print (hM : mdK K R) (hS : mdIs V S) (hP : 0 ≤ b ∧ b < S.1.length → bkP (gbq S b).1 (gbq S b).2.1) (hQ : ∀ V', qFr V V' → Q (some (gi (aPrint S b i))) (K, R, V')) : gC l E (d + 5) iX12_print [ga 775, gi b, gi i] (K, R, V) Q := by
  refine gC_of kX12_print (ls := [some (ga 775), some (gi b), some (gi i)]) rfl (Nat.le_of_ble_eq_true rfl) ?_
  have hn0 := hS.1
  have hn1 := hS.2.1
  refine gX_aloadn dX12_print_0 rfl ?_
  refine gX_iloadn dX12_print_1 rfl ?_
  refine gX_virt (J := iX12_isBook) (av := [gi b]) (a := 775) (st := []) dX12_print_2 lkX12_371 kX12_isBook vX12_isBook (gFit_m (by decide)) hM.1 rfl rfl (Nat.le_of_ble_eq_true rfl) (Nat.zero_le _) (Nat.zero_le _) rfl ?_
  refine m_isBook hM hS.1 hS.2.1 ?_
  show gX l E _ 5 [some (ga 775), some (gi b), some (gi i)] [gi (b2i (inR b 0 ((S.1.length : Int) - 1)))] (K, R, V) _ _
  refine gX_ifne (tgt := 12) dX12_print_5 (by decide) (fun w1 => ?_) (fun w1 => ?_)
  · have w1 := inR_1 w1
    have hr : 0 ≤ b ∧ b < S.1.length := ⟨by omega, by omega⟩
    obtain ⟨q, eq⟩ : ∃ q, q = gbq S b := ⟨_, rfl⟩
    have hk := hS.2.2.2.1 b hr.1 hr.2
    rw [← eq] at hk
    have ho := hP hr
    rw [← eq] at ho
    refine gX_aloadn dX12_print_12 rfl ?_
    refine gX_virt (J := iX12_noneGone) (av := []) (a := 775) (st := []) dX12_print_13 lkX12_374 kX12_noneGone vX12_noneGone (gFit_m (by decide)) hM.1 rfl rfl (Nat.le_of_ble_eq_true rfl) (Nat.zero_le _) (Nat.zero_le _) rfl ?_
    refine m_noneGone hM (fun V1 hg1 hf1 => ?_)
    show gX l E _ 16 [some (ga 775), some (gi b), some (gi i)] [] (K, R, V1) _ _
    have hk1 := hk.kept (V' := V1) (fun x h1 h2 => hf1 x (by omega))
    have hv := rk1.wv (V := V1) ⟨hr.1, by omega⟩ hk1.1 hk1.2.1 ho.1.1 hg1
    refine gX_aloadn dX12_print_16 rfl ?_
    refine gX_iloadn dX12_print_17 rfl ?_
    refine gX_virt (J := iX12_walk) (av := [gi b]) (a := 775) (st := []) dX12_print_18 lkX12_339 kX12_walk vX12_walk (gFit_m (by decide)) hM.1 rfl rfl (Nat.le_of_ble_eq_true rfl) (Nat.zero_le _) (Nat.zero_le _) rfl ?_
    refine m_walk hM hv ho.2 ho.1.2.1 ho.1.2.2.1 ho.1.2.2.2.1 (fun g g0 g1 => by rw [dpt_21 (ho.1.2.2.2.2.1 g g0 g1)]; exact ho.1.2.2.2.2.1 g g0 g1) (fun V2 w2 o2 p2 l2 => ?_)
    show gX l E _ 21 [some (ga 775), some (gi b), some (gi i)] [] (K, R, V2) _ _
    have p2 : pI V2 (prL q) := p2
    have l2 : ((prL q).length : Int) ≤ 690 := l2
    have hq2 : qFr V V2 := qFr.trans ⟨fun a ha => hf1 a (by omega), by rw [hf1 775 (by omega)], by rw [hf1 775 (by omega)], by rw [hf1 775 (by omega)]⟩ w2.q
    refine gX_iloadn dX12_print_21 rfl ?_
    refine gX_iconst dX12_print_22 ⟨by decide, by decide⟩ ?_
    refine gX_icmpne (tgt := 33) dX12_print_23 (by decide) (fun w2 => ?_) (fun w2 => ?_)
    · refine gX_iloadn dX12_print_33 rfl ?_
      refine gX_i2l dX12_print_34 ?_
      refine gX_lconst (x := 0) dX12_print_35 (by decide) ⟨by decide, by decide⟩ ?_
      refine gX_aloadn dX12_print_36 rfl ?_
      refine gX_gI 55 dX12_print_37 fdX12_315 rfl (Or.inl rfl) hM.1 ?_
      rw [p2.1]
      refine gX_iconst dX12_print_40 ⟨by decide, by decide⟩ ?_
      refine gX_isub dX12_print_41 ⟨by omega, by omega⟩ ?_
      refine gX_i2l dX12_print_42 ?_
      refine gX_stat (J := iX12_in) (av := [gl i, gl 0, gl (((prL q).length : Int) - 1)]) (st := []) dX12_print_43 lkX12_154 kX12_in sX12_in (gFit_m (by decide)) rfl (Nat.le_of_ble_eq_true rfl) (Nat.zero_le _) (Nat.zero_le _) rfl ?_
      refine m_in ?_
      show gX l E _ 46 [some (ga 775), some (gi b), some (gi i)] [gi (b2i (inR i 0 ((prL q).length - 1)))] (K, R, V2) _ _
      refine gX_ifeq (tgt := 58) dX12_print_46 (by decide) (fun w3 => ?_) (fun w3 => ?_)
      · have w3 := inR_0 w3
        refine gX_iconst dX12_print_58 ⟨by decide, by decide⟩ ?_
        refine gX_iret dX12_print_59 (Or.inl rfl) ?_
        have ea : aPrint S b i = -1 := by
          unfold aPrint
          rw [if_pos hr, ← eq, if_neg (by omega)]
          exact lat_out (by omega)
        rw [ea] at hQ
        exact hQ V2 hq2
      · have w3 := inR_1 w3
        refine gX_aloadn dX12_print_49 rfl ?_
        refine gX_gR 54 dX12_print_50 fdX12_120 rfl rfl hM.1 (mR54 hM) ?_
        refine gX_iloadn dX12_print_53 rfl ?_
        refine gX_iald dX12_print_54 (mA54 hM) (by omega) (by omega) ?_
        rw [show V2 811 i = lat (prL q) i from p2.at (by omega) (by omega)]
        refine gX_goto (tgt := 59) dX12_print_55 (by decide) ?_
        refine gX_iret dX12_print_59 (Or.inl rfl) ?_
        have ea : aPrint S b i = lat (prL q) i := by
          unfold aPrint
          rw [if_pos hr, ← eq, if_neg (by omega)]
        rw [ea] at hQ
        exact hQ V2 hq2
    · refine gX_aloadn dX12_print_26 rfl ?_
      refine gX_gI 55 dX12_print_27 fdX12_315 rfl (Or.inl rfl) hM.1 ?_
      rw [p2.1]
      refine gX_goto (tgt := 59) dX12_print_30 (by decide) ?_
      refine gX_iret dX12_print_59 (Or.inl rfl) ?_
      have ea : aPrint S b i = ((prL q).length : Int) := by
        unfold aPrint
        rw [if_pos hr, ← eq, if_pos (by omega)]
      rw [ea] at hQ
      exact hQ V2 hq2
  · have w1 := inR_0 w1
    refine gX_sipush dX12_print_8 (by decide) ⟨by decide, by decide⟩ ?_
    refine gX_iret dX12_print_11 (Or.inl rfl) ?_
    have ea : aPrint S b i = -1001 := by
      unfold aPrint
      rw [if_neg (by omega)]
    rw [ea] at hQ
    exact hQ V qFr.rf
/-- the book by ranks, laid anew -/
theorem wV.rb {V' : Int → Int → Int} (hv : wV V 10 tx gs n e) (hw : hoW gs) (h0 : V' 776 t = V 776 10) (h1 : ∀ i : Int, 0 ≤ i → i < 40 → V' 777 (40 * t + i) = V 777 (400 + i) ∧ V' 778 (40 * t + i) = V 778 (400 + i)) (h2 : V' 779 t = gs.length) (h3 : ∀ k : Int, 0 ≤ k → k < gs.length → V' 780 (20 * t + k) = V 780 (200 + e k) ∧ V' 781 (20 * t + k) = (gq gs k).2.1 ∧ V' 782 (20 * t + k) = V 782 (200 + e k) ∧ V' 783 (20 * t + k) = V 783 (200 + e k) ∧ ∀ i : Int, 0 ≤ i → i < 8 → V' 784 (8 * (20 * t + k) + i) = V 784 (8 * (200 + e k) + i) ∧ V' 785 (8 * (20 * t + k) + i) = V 785 (8 * (200 + e k) + i)) (hlv : ∀ q ∈ gs, lvQ q) : rbIs V' t tx gs ∧ rsIs V' t tx gs := by
  have ht := hv.1 (-1) (by omega) (by omega)
  rw [rwL_n, show rkE e (-1) = -1 from if_pos (by omega)] at ht
  have hr : ∀ k : Int, 0 ≤ k → k < gs.length → rwL tx gs k = (gq gs k).2.2.2.2.2 ∧ rkE e k = e k := fun k k0 k1 => ⟨if_pos ⟨k0, k1⟩, if_neg (by omega)⟩
  refine ⟨⟨?_, ht.2.1, fun j x hx => ?_, h2, hv.2.2.2.2.2.2.2, fun k q hq => ?_⟩, fun g g0 g1 lg => ⟨?_, fun h i hh i0 i1 => ?_⟩, fun h i hh i0 i1 hno => ?_⟩
  · rw [h0]; exact ht.1
  · have hj := (List.getElem?_eq_some_iff.mp hx).1
    have a := (h1 j (by omega) (by omega)).1
    have c := (ht.2.2.2 j (by omega) (by omega)).1
    rw [a, ← lat_of hx]
    exact c
  · have hj := (List.getElem?_eq_some_iff.mp hq).1
    have e1 : gq gs k = q := by unfold gq; rw [List.getD_eq_getElem?_getD, show ((k : Nat) : Int).toNat = k from rfl, hq]; rfl
    have a := h3 k (by omega) (by omega)
    have c := hr k (by omega) (by omega)
    have f := hv.1 k (by omega) (by omega)
    have g := hv.2.1 k (by omega) (by omega)
    rw [c.1, c.2, e1] at f
    rw [e1] at g a
    refine ⟨a.1.trans g.2.2.2.1, a.2.1, ?_, f.2.2.1 (by omega), fun j x hx => ?_⟩
    · rw [a.2.2.2.1, ← f.1]; exact (if_neg (by omega)).symm
    · have hj := (List.getElem?_eq_some_iff.mp hx).1
      have f8 := f.2.2.1 (by omega)
      rw [(a.2.2.2.2 j (by omega) (by omega)).1, ← lat_of hx, ← (f.2.2.2 j (by omega) (by omega)).1]
      exact (if_neg (by omega)).symm
  · rw [(h3 g g0 g1).2.2.1]; exact (hv.2.1 g g0 g1).2.2.2.2
  · have hrg := hh.rg
    have z := ((hv.1 h hrg.1 hrg.2).2.2.2 i i0 i1).2.1 g g0 g1
    rw [(h3 g g0 g1).2.2.1, ← z, show 200 + e g = 20 * 10 + e g by omega]
    have es : spA V' t h i = spA V 10 (rkE e h) i := by
      have b8 := (hv.1 h hrg.1 hrg.2).2
      by_cases c : h < 0
      · have : h = -1 := by omega
        subst this
        rw [show rkE e (-1) = -1 from if_pos (by omega)]
        have q1 : spA V' t (-1) i = V' 778 (40 * t + i) := if_pos (by omega)
        have q2 : spA V 10 (-1) i = V 778 (400 + i) := if_pos (by omega)
        rw [q1, q2]; exact (h1 i i0 (by omega)).2
      · rw [(hr h (by omega) hrg.2).2]
        have q1 : spA V' t h i = V' 785 (8 * (20 * t + h) + i) := if_neg c
        have q2 : spA V 10 (e h) i = V 785 (8 * (200 + e h) + i) := if_neg (by have := (hv.2.1 h (by omega) hrg.2).1; omega)
        have := b8.2.1 (by omega)
        rw [q1, q2]; exact ((h3 h (by omega) hrg.2).2.2.2.2 i i0 (by omega)).2
    rw [es]
  · have hrg := hh.rg
    have z := ((hv.1 h hrg.1 hrg.2).2.2.2 i i0 i1).2.2 (fun k k0 k1 => hno k k0 k1 (hlv _ (gqM k0 k1)))
    have es : spA V' t h i = spA V 10 (rkE e h) i := by
      have b8 := (hv.1 h hrg.1 hrg.2).2
      by_cases c : h < 0
      · have : h = -1 := by omega
        subst this
        rw [show rkE e (-1) = -1 from if_pos (by omega)]
        have q1 : spA V' t (-1) i = V' 778 (40 * t + i) := if_pos (by omega)
        have q2 : spA V 10 (-1) i = V 778 (400 + i) := if_pos (by omega)
        rw [q1, q2]; exact (h1 i i0 (by omega)).2
      · rw [(hr h (by omega) hrg.2).2]
        have q1 : spA V' t h i = V' 785 (8 * (20 * t + h) + i) := if_neg c
        have q2 : spA V 10 (e h) i = V 785 (8 * (200 + e h) + i) := if_neg (by have := (hv.2.1 h (by omega) hrg.2).1; omega)
        have := b8.2.1 (by omega)
        rw [q1, q2]; exact ((h3 h (by omega) hrg.2).2.2.2.2 i i0 (by omega)).2
    rw [es]; exact z
/-- only the book at t and the walk's own cells changed -/
def rnF (V V' : Int → Int → Int) (t : Int) : Prop := ∀ a k, ¬ inSl t a k → ¬ (805 ≤ a ∧ a ≤ 811) → ¬ (a = 775 ∧ (k = 50 ∨ k = 53 ∨ k = 55)) → V' a k = V a k
theorem wlF.rn {V' : Int → Int → Int} (h : wlF V V') : rnF V V' t := fun a k _ h2 h3 => by
  by_cases c : a = 775
  · subst c; exact h.2 k (fun z => h3 ⟨rfl, Or.inl z⟩) (fun z => h3 ⟨rfl, Or.inr (Or.inl z)⟩) (fun z => h3 ⟨rfl, Or.inr (Or.inr z)⟩)
  · rw [h.1 a c (by omega)]
theorem sloF.rn {V' : Int → Int → Int} (h : sloF V V' t) : rnF V V' t := fun a k h1 _ _ => h a k h1
theorem rnF.trans {V1 V2 : Int → Int → Int} (h : rnF V V1 t) (h2 : rnF V1 V2 t) : rnF V V2 t := fun a k a1 a2 a3 => (h2 a k a1 a2 a3).trans (h a k a1 a2 a3)
theorem sloF.up {V1 : Int → Int → Int} (h : sloF V V1 t) {a k x : Int} (hk : inSl t a k) : sloF V (gup V1 a k x) t := fun a' k' hn => by
  rw [gup_c (by
    by_cases c : a' = a
    · right; intro z; subst c; subst z; exact hn hk
    · left; exact c)]
  exact h a' k' hn
set_option maxRecDepth 4000 in
theorem m_renumber {ex sc : Int} (hM : mdK K R) (ht : 0 ≤ t ∧ t < 10) (hs : wkI V s) (hX : wkX s) (hx : V 786 10 = ex) (hy : V 787 10 = sc) (hQ : ∀ V', rk1 V' t (s.1, reN s.2.1, ex, sc, s.2.2.1, s.2.2.2) → rnF V V' t → bkP s.1 (reN s.2.1) → Q none (K, R, V')) : gC l E (d + 5) iX12_renumber [ga 775, gi t] (K, R, V) Q := by
  refine gC_of kX12_renumber (ls := [some (ga 775), some (gi t), none, none, none]) rfl (Nat.le_of_ble_eq_true rfl) ?_
  have hob := wkX.bk hs.2.2.2.2.1 hs.2.2.2.2.2 hX
  have hv := hs.wv
  have h20 := hs.1.2.2.2.2.1
  have g20 := hv.2.2.2.2.2.2.2
  refine gX_aloadn dX12_renumber_0 rfl ?_
  refine gX_bipush dX12_renumber_1 (by decide) ⟨by decide, by decide⟩ ?_
  refine gX_virt (J := iX12_walk) (av := [gi 10]) (a := 775) (st := []) dX12_renumber_3 lkX12_339 kX12_walk vX12_walk (gFit_m (by decide)) hM.1 rfl rfl (Nat.le_of_ble_eq_true rfl) (Nat.zero_le _) (Nat.zero_le _) rfl ?_
  refine m_walk hM hv hob.2 hob.1.2.1 hob.1.2.2.1 hob.1.2.2.2.1 (fun g g0 g1 => by rw [dpt_21 (hob.1.2.2.2.2.1 g g0 g1)]; exact hob.1.2.2.2.2.1 g g0 g1) (fun V1 w1 o1 p1 l1 => ?_)
  show gX l E _ 6 [some (ga 775), some (gi t), none, none, none] [] (K, R, V1) _ _
  refine gX_aloadn dX12_renumber_6 rfl ?_
  refine gX_bipush dX12_renumber_7 (by decide) ⟨by decide, by decide⟩ ?_
  refine gX_iloadn dX12_renumber_9 rfl ?_
  refine gX_virt (J := iX12_putBook) (av := [gi 10, gi t]) (a := 775) (st := []) dX12_renumber_10 lkX12_235 kX12_putBook vX12_putBook (gFit_m (by decide)) hM.1 rfl rfl (Nat.le_of_ble_eq_true rfl) (Nat.zero_le _) (Nat.zero_le _) rfl ?_
  refine m_putBook hM ⟨by omega, by omega⟩ ⟨by omega, by omega⟩ (by omega) (fun V2 he2 hf2 => ?_)
  show gX l E _ 13 [some (ga 775), some (gi t), none, none, none] [] (K, R, V2) _ _
  refine gX_iconst dX12_renumber_13 ⟨by decide, by decide⟩ ?_
  refine gX_istoren dX12_renumber_14 (show (2 : Nat) < 5 from by decide) (ls2 := [some (ga 775), some (gi t), some (gi 0), none, none]) rfl ?_
  have hv1 := hv.kept w1
  have lp : ∀ (jj : Nat) (k : Int) (j3 : Option gV) (j4 : Option gV) (V3 : Int → Int → Int) (bc bs : Nat), ((reN s.2.1).length : Int) - k < (jj : Int) → 0 ≤ k → k ≤ (reN s.2.1).length → sloF V1 V3 t → (V3 776 t = V1 776 10 ∧ (∀ i : Int, 0 ≤ i → i < 40 → V3 777 (40 * t + i) = V1 777 (400 + i) ∧ V3 778 (40 * t + i) = V1 778 (400 + i)) ∧ V3 786 t = V1 786 10 ∧ V3 787 t = V1 787 10 ∧ ∀ j : Int, 0 ≤ j → j < 6 → V3 788 (6 * t + j) = V1 788 (60 + j) ∧ V3 789 (6 * t + j) = V1 789 (60 + j)) → (∀ j : Int, 0 ≤ j → j < k → V3 780 (20 * t + j) = V1 780 (200 + (lvN s.2.1 s.2.1.length) j) ∧ V3 781 (20 * t + j) = (gq (reN s.2.1) j).2.1 ∧ V3 782 (20 * t + j) = V1 782 (200 + (lvN s.2.1 s.2.1.length) j) ∧ V3 783 (20 * t + j) = V1 783 (200 + (lvN s.2.1 s.2.1.length) j) ∧ ∀ i : Int, 0 ≤ i → i < 8 → V3 784 (8 * (20 * t + j) + i) = V1 784 (8 * (200 + (lvN s.2.1 s.2.1.length) j) + i) ∧ V3 785 (8 * (20 * t + j) + i) = V1 785 (8 * (200 + (lvN s.2.1 s.2.1.length) j) + i)) → gX l E (gFm E (d + 5) iX12_renumber Q) 15 [some (ga 775), some (gi t), some (gi k), j3, j4] [] (K, R, V3) bc bs := by
    intro jj
    induction jj with
    | zero =>
      intro k j3 j4 V3 bc bs hj q0 q1 q2 q3 q4
      exfalso; omega
    | succ jj ih =>
      intro k j3 j4 V3 bc bs hj q0 q1 q2 q3 q4
      have h53 : V3 775 53 = ((reN s.2.1).length : Int) := by rw [q2.o (by omega)]; exact o1.1
      refine gX_iloadn dX12_renumber_15 rfl ?_
      refine gX_aloadn dX12_renumber_16 rfl ?_
      refine gX_gI 53 dX12_renumber_17 fdX12_327 rfl (Or.inl rfl) hM.1 ?_
      rw [h53]
      refine gX_icmpge (tgt := 90) dX12_renumber_20 (by decide) (fun b1 => ?_) (fun b1 => ?_)
      · refine gX_aloadn dX12_renumber_90 rfl ?_
        refine gX_gR 4 dX12_renumber_91 fdX12_19 rfl rfl hM.1 (mR4 hM) ?_
        refine gX_iloadn dX12_renumber_94 rfl ?_
        refine gX_aloadn dX12_renumber_95 rfl ?_
        refine gX_gI 53 dX12_renumber_96 fdX12_327 rfl (Or.inl rfl) hM.1 ?_
        rw [h53]
        refine gX_iast dX12_renumber_99 (mA4 hM) (by omega) (by omega) ?_
        refine gX_vret dX12_renumber_100 rfl ?_
        have ek : k = (reN s.2.1).length := by omega
        rw [ek] at q4
        have hrb := hv1.rb (t := t) (V' := gup V3 779 t (reN s.2.1).length) hob.1.2.2.1 (by rw [gup_ne (by omega)]; exact q3.1) (fun i i0 i1 => by rw [gup_ne (by omega), gup_ne (by omega)]; exact q3.2.1 i i0 i1) gup_s (fun j j0 j1 => by rw [gup_ne (by omega), gup_ne (by omega), gup_ne (by omega), gup_ne (by omega), gup_ne (by omega), gup_ne (by omega)]; exact q4 j j0 j1) hob.1.1
        refine hQ _ ⟨hrb.1, hrb.2, ?_, ?_, fun j j0 j1 => ⟨?_, ?_⟩⟩ (w1.rn.trans (q2.up (by unfold inSl; omega)).rn) hob
        · rw [gup_ne (by omega), q3.2.2.1]; exact (congrFun (w1.1 786 (by omega) (by omega)) 10).trans hx
        · rw [gup_ne (by omega), q3.2.2.2.1]; exact (congrFun (w1.1 787 (by omega) (by omega)) 10).trans hy
        · rw [gup_ne (by omega), (q3.2.2.2.2 j j0 j1).1, w1.1 788 (by omega) (by omega)]; exact (hs.2.2.2.1.2.2 j j0 j1).2
        · rw [gup_ne (by omega), (q3.2.2.2.2 j j0 j1).2, w1.1 789 (by omega) (by omega)]; exact (hs.2.2.2.1.2.2 j j0 j1).1
      · have hro := rank_ho hs.2.2.2.2.1.2.2.1 hs.2.2.2.2.2 (k := k) q0 (by omega)
        obtain ⟨ir, r1, r2, r3, r4, r5⟩ := rank (gs := s.2.1) (k := k) q0 (by omega)
        have h9 : V3 809 k = (lvN s.2.1 s.2.1.length) k := by rw [q2.o (by omega)]; exact (o1.2 k q0 (by omega)).1
        have hh : V1 781 (200 + (lvN s.2.1 s.2.1.length) k) = (gq s.2.1 ((lvN s.2.1 s.2.1.length) k)).2.1 := by rw [w1.1 781 (by omega) (by omega)]; exact (hs.1.gl (g := (lvN s.2.1 s.2.1.length) k) (by omega) (by omega)).2.1
        have hnew : ¬ (gq s.2.1 ((lvN s.2.1 s.2.1.length) k)).2.1 < 0 → V1 810 (gq s.2.1 ((lvN s.2.1 s.2.1.length) k)).2.1 = (gq (reN s.2.1) k).2.1 := fun z => by
          rw [← hro.2.2] at z ⊢
          unfold rkE at z ⊢
          split at z
          · exfalso; omega
          · rename_i y; rw [if_neg y]; exact (o1.2 _ (by omega) (by omega)).2
        have hrn : 0 ≤ (gq (reN s.2.1) k).2.1 → 0 ≤ (lvN s.2.1 s.2.1.length) ((gq (reN s.2.1) k).2.1) := fun z => by
          obtain ⟨i9, _, _, _, y4, _⟩ := rank (gs := s.2.1) z (by omega)
          omega
        have hhb : (gq s.2.1 ((lvN s.2.1 s.2.1.length) k)).2.1 < 20 := by have := hs.2.2.2.2.1.2.2.1.at (g := (lvN s.2.1 s.2.1.length) k) (by omega) (by omega); omega
        refine gX_aloadn dX12_renumber_23 rfl ?_
        refine gX_gR 51 dX12_renumber_24 fdX12_114 rfl rfl hM.1 (mR51 hM) ?_
        refine gX_iloadn dX12_renumber_27 rfl ?_
        refine gX_iald dX12_renumber_28 (mA51 hM) (by omega) (by omega) ?_
        rw [h9]
        refine gX_istoren dX12_renumber_29 (show (3 : Nat) < 5 from by decide) (ls2 := [some (ga 775), some (gi t), some (gi k), some (gi ((lvN s.2.1 s.2.1.length) k)), j4]) rfl ?_
        refine gX_aloadn dX12_renumber_30 rfl ?_
        refine gX_sipush dX12_renumber_31 (by decide) ⟨by decide, by decide⟩ ?_
        refine gX_iloadn dX12_renumber_34 rfl ?_
        refine gX_iadd dX12_renumber_35 ⟨by omega, by omega⟩ ?_
        refine gX_bipush dX12_renumber_36 (by decide) ⟨by decide, by decide⟩ ?_
        refine gX_iloadn dX12_renumber_38 rfl ?_
        refine gX_imul dX12_renumber_39 ⟨by omega, by omega⟩ ?_
        refine gX_iloadn dX12_renumber_40 rfl ?_
        refine gX_iadd dX12_renumber_41 ⟨by omega, by omega⟩ ?_
        refine gX_virt (J := iX12_putGloss) (av := [gi (200 + ((lvN s.2.1 s.2.1.length) k)), gi ((20 * t) + k)]) (a := 775) (st := []) dX12_renumber_42 lkX12_239 kX12_putGloss vX12_putGloss (gFit_m (by decide)) hM.1 rfl rfl (Nat.le_of_ble_eq_true rfl) (Nat.zero_le _) (Nat.zero_le _) rfl ?_
        refine m_putGloss hM ⟨by omega, by omega⟩ ⟨by omega, by omega⟩ (by omega) (fun V4 he4 hf4 => ?_)
        show gX l E _ 45 [some (ga 775), some (gi t), some (gi k), some (gi ((lvN s.2.1 s.2.1.length) k)), j4] [] (K, R, V4) _ _
        refine gX_aloadn dX12_renumber_45 rfl ?_
        refine gX_gR 6 dX12_renumber_46 fdX12_25 rfl rfl hM.1 (mR6 hM) ?_
        refine gX_sipush dX12_renumber_49 (by decide) ⟨by decide, by decide⟩ ?_
        refine gX_iloadn dX12_renumber_52 rfl ?_
        refine gX_iadd dX12_renumber_53 ⟨by omega, by omega⟩ ?_
        refine gX_iald dX12_renumber_54 (mA6 hM) (by omega) (by omega) ?_
        rw [show V4 781 (200 + (lvN s.2.1 s.2.1.length) k) = (gq s.2.1 ((lvN s.2.1 s.2.1.length) k)).2.1 by rw [hf4 781 _ (by unfold inGl; omega), q2 781 _ (by unfold inSl; omega)]; exact hh]
        refine gX_istore dX12_renumber_55 (show (4 : Nat) < 5 from by decide) (ls2 := [some (ga 775), some (gi t), some (gi k), some (gi ((lvN s.2.1 s.2.1.length) k)), some (gi ((gq s.2.1 ((lvN s.2.1 s.2.1.length) k)).2.1))]) rfl ?_
        refine gX_aloadn dX12_renumber_57 rfl ?_
        refine gX_gR 6 dX12_renumber_58 fdX12_25 rfl rfl hM.1 (mR6 hM) ?_
        refine gX_bipush dX12_renumber_61 (by decide) ⟨by decide, by decide⟩ ?_
        refine gX_iloadn dX12_renumber_63 rfl ?_
        refine gX_imul dX12_renumber_64 ⟨by omega, by omega⟩ ?_
        refine gX_iloadn dX12_renumber_65 rfl ?_
        refine gX_iadd dX12_renumber_66 ⟨by omega, by omega⟩ ?_
        refine gX_iload dX12_renumber_67 rfl ?_
        refine gX_ifge (tgt := 76) dX12_renumber_69 (by decide) (fun b2 => ?_) (fun b2 => ?_)
        · refine gX_aloadn dX12_renumber_76 rfl ?_
          refine gX_gR 52 dX12_renumber_77 fdX12_117 rfl rfl hM.1 (mR52 hM) ?_
          refine gX_iload dX12_renumber_80 rfl ?_
          refine gX_iald dX12_renumber_82 (mA52 hM) (by omega) (by omega) ?_
          rw [show V4 810 (gq s.2.1 ((lvN s.2.1 s.2.1.length) k)).2.1 = V1 810 (gq s.2.1 ((lvN s.2.1 s.2.1.length) k)).2.1 by rw [hf4 810 _ (by unfold inGl; omega), q2.o (by omega)]]
          refine gX_iast dX12_renumber_83 (mA6 hM) (by omega) (by omega) ?_
          refine gX_iinc dX12_renumber_84 rfl (show (2 : Nat) < 5 from by decide) ⟨by omega, by omega⟩ (ls2 := [some (ga 775), some (gi t), some (gi (k + 1)), some (gi ((lvN s.2.1 s.2.1.length) k)), some (gi ((gq s.2.1 ((lvN s.2.1 s.2.1.length) k)).2.1))]) rfl ?_
          refine gX_goto (tgt := 15) dX12_renumber_87 (by decide) ?_
          have exh : (V1 810 (gq s.2.1 ((lvN s.2.1 s.2.1.length) k)).2.1) = (gq (reN s.2.1) k).2.1 := by
            first
            | (have z9 := hro.2.2; unfold rkE at z9; split at z9 <;> omega)
            | exact hnew (by omega)
          refine ih (k + 1) _ _ _ _ _ (by omega) (by omega) (by omega) ((q2.trans (hf4.sl (by omega) (by omega))).up (by unfold inSl; omega)) ⟨?_, fun i i0 i1 => ⟨?_, ?_⟩, ?_, ?_, fun j j0 j1 => ⟨?_, ?_⟩⟩ (fun j j0 j1 => ?_)
          · rw [gup_ne (by omega), hf4 776 _ (by unfold inGl; omega)]; exact q3.1
          · rw [gup_ne (by omega), hf4 777 _ (by unfold inGl; omega)]; exact (q3.2.1 i i0 i1).1
          · rw [gup_ne (by omega), hf4 778 _ (by unfold inGl; omega)]; exact (q3.2.1 i i0 i1).2
          · rw [gup_ne (by omega), hf4 786 _ (by unfold inGl; omega)]; exact q3.2.2.1
          · rw [gup_ne (by omega), hf4 787 _ (by unfold inGl; omega)]; exact q3.2.2.2.1
          · rw [gup_ne (by omega), hf4 788 _ (by unfold inGl; omega)]; exact (q3.2.2.2.2 j j0 j1).1
          · rw [gup_ne (by omega), hf4 789 _ (by unfold inGl; omega)]; exact (q3.2.2.2.2 j j0 j1).2
          · by_cases cj : j = k
            · subst cj
              have o9 : ∀ a i, ¬ inSl t a i → V3 a i = V1 a i := q2
              refine ⟨?_, ?_, ?_, ?_, fun i i0 i1 => ⟨?_, ?_⟩⟩
              · rw [gup_ne (by omega), he4.1, q2 780 _ (by unfold inSl; omega)]
              · exact gup_s.trans exh
              · rw [gup_ne (by omega), he4.2.2.1, q2 782 _ (by unfold inSl; omega)]
              · rw [gup_ne (by omega), he4.2.2.2.1, q2 783 _ (by unfold inSl; omega)]
              · rw [gup_ne (by omega), (he4.2.2.2.2 i i0 i1).1, q2 784 _ (by unfold inSl; omega)]
              · rw [gup_ne (by omega), (he4.2.2.2.2 i i0 i1).2, q2 785 _ (by unfold inSl; omega)]
            · have z := q4 j j0 (by omega)
              refine ⟨?_, ?_, ?_, ?_, fun i i0 i1 => ⟨?_, ?_⟩⟩
              · rw [gup_ne (by omega), hf4 780 _ (by unfold inGl; omega)]; exact z.1
              · rw [gup_c (Or.inr (by omega)), hf4 781 _ (by unfold inGl; omega)]; exact z.2.1
              · rw [gup_ne (by omega), hf4 782 _ (by unfold inGl; omega)]; exact z.2.2.1
              · rw [gup_ne (by omega), hf4 783 _ (by unfold inGl; omega)]; exact z.2.2.2.1
              · rw [gup_ne (by omega), hf4 784 _ (by unfold inGl; omega)]; exact (z.2.2.2.2 i i0 i1).1
              · rw [gup_ne (by omega), hf4 785 _ (by unfold inGl; omega)]; exact (z.2.2.2.2 i i0 i1).2
        · refine gX_iconst dX12_renumber_72 ⟨by decide, by decide⟩ ?_
          refine gX_goto (tgt := 83) dX12_renumber_73 (by decide) ?_
          refine gX_iast dX12_renumber_83 (mA6 hM) (by omega) (by omega) ?_
          refine gX_iinc dX12_renumber_84 rfl (show (2 : Nat) < 5 from by decide) ⟨by omega, by omega⟩ (ls2 := [some (ga 775), some (gi t), some (gi (k + 1)), some (gi ((lvN s.2.1 s.2.1.length) k)), some (gi ((gq s.2.1 ((lvN s.2.1 s.2.1.length) k)).2.1))]) rfl ?_
          refine gX_goto (tgt := 15) dX12_renumber_87 (by decide) ?_
          have exh : (-1) = (gq (reN s.2.1) k).2.1 := by
            first
            | (have z9 := hro.2.2; unfold rkE at z9; split at z9 <;> omega)
            | exact hnew (by omega)
          refine ih (k + 1) _ _ _ _ _ (by omega) (by omega) (by omega) ((q2.trans (hf4.sl (by omega) (by omega))).up (by unfold inSl; omega)) ⟨?_, fun i i0 i1 => ⟨?_, ?_⟩, ?_, ?_, fun j j0 j1 => ⟨?_, ?_⟩⟩ (fun j j0 j1 => ?_)
          · rw [gup_ne (by omega), hf4 776 _ (by unfold inGl; omega)]; exact q3.1
          · rw [gup_ne (by omega), hf4 777 _ (by unfold inGl; omega)]; exact (q3.2.1 i i0 i1).1
          · rw [gup_ne (by omega), hf4 778 _ (by unfold inGl; omega)]; exact (q3.2.1 i i0 i1).2
          · rw [gup_ne (by omega), hf4 786 _ (by unfold inGl; omega)]; exact q3.2.2.1
          · rw [gup_ne (by omega), hf4 787 _ (by unfold inGl; omega)]; exact q3.2.2.2.1
          · rw [gup_ne (by omega), hf4 788 _ (by unfold inGl; omega)]; exact (q3.2.2.2.2 j j0 j1).1
          · rw [gup_ne (by omega), hf4 789 _ (by unfold inGl; omega)]; exact (q3.2.2.2.2 j j0 j1).2
          · by_cases cj : j = k
            · subst cj
              have o9 : ∀ a i, ¬ inSl t a i → V3 a i = V1 a i := q2
              refine ⟨?_, ?_, ?_, ?_, fun i i0 i1 => ⟨?_, ?_⟩⟩
              · rw [gup_ne (by omega), he4.1, q2 780 _ (by unfold inSl; omega)]
              · exact gup_s.trans exh
              · rw [gup_ne (by omega), he4.2.2.1, q2 782 _ (by unfold inSl; omega)]
              · rw [gup_ne (by omega), he4.2.2.2.1, q2 783 _ (by unfold inSl; omega)]
              · rw [gup_ne (by omega), (he4.2.2.2.2 i i0 i1).1, q2 784 _ (by unfold inSl; omega)]
              · rw [gup_ne (by omega), (he4.2.2.2.2 i i0 i1).2, q2 785 _ (by unfold inSl; omega)]
            · have z := q4 j j0 (by omega)
              refine ⟨?_, ?_, ?_, ?_, fun i i0 i1 => ⟨?_, ?_⟩⟩
              · rw [gup_ne (by omega), hf4 780 _ (by unfold inGl; omega)]; exact z.1
              · rw [gup_c (Or.inr (by omega)), hf4 781 _ (by unfold inGl; omega)]; exact z.2.1
              · rw [gup_ne (by omega), hf4 782 _ (by unfold inGl; omega)]; exact z.2.2.1
              · rw [gup_ne (by omega), hf4 783 _ (by unfold inGl; omega)]; exact z.2.2.2.1
              · rw [gup_ne (by omega), hf4 784 _ (by unfold inGl; omega)]; exact (z.2.2.2.2 i i0 i1).1
              · rw [gup_ne (by omega), hf4 785 _ (by unfold inGl; omega)]; exact (z.2.2.2.2 i i0 i1).2
  exact lp ((reN s.2.1).length + 1) 0 _ _ V2 _ _ (by omega) (by omega) (by omega) hf2 ⟨he2.1, fun i i0 i1 => he2.2.1 i i0 i1, he2.2.2.2.2.1, he2.2.2.2.2.2.1, fun j j0 j1 => he2.2.2.2.2.2.2 j j0 j1⟩ (fun j j0 j1 => by omega)
end MD32
