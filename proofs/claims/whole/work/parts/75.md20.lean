/-! The reference: hand. Written by wip/whole/tools/mk_md20.py. -/
theorem rdH_0 (ys : List Int) (n : Nat) (s : hR) : rdH ys n 0 s = s := by
  cases n with
  | zero => rfl
  | succ n => exact if_pos rfl
theorem ghq_set {S : gbS} {h c : Int} {q : gbH} {T : List Int × Int} (h4 : S.2.1.length = 4) (h0 : 0 ≤ h ∧ h < 4) (c0 : 0 ≤ c) : ghq (S.1, S.2.1.set h.toNat q, T) c = if c = h then q else ghq S c := by
  unfold ghq
  by_cases e : c = h
  · rw [if_pos e, e]
    show (S.2.1.set h.toNat q).getD h.toNat ghD = q
    rw [List.getD_eq_getElem?_getD, List.getElem?_set_self (by omega)]
    rfl
  · rw [if_neg e]
    show (S.2.1.set h.toNat q).getD c.toNat ghD = _
    rw [List.getD_eq_getElem?_getD, List.getD_eq_getElem?_getD, List.getElem?_set_ne (by omega)]
theorem slE_of {V V' : Int → Int → Int} (h : ∀ a, 776 ≤ a → a ≤ 789 → V' a = V a) (c : Int) : slE V' c V c := by
  unfold slE glE
  rw [h 776 (by omega) (by omega), h 777 (by omega) (by omega), h 778 (by omega) (by omega), h 779 (by omega) (by omega), h 780 (by omega) (by omega), h 781 (by omega) (by omega), h 782 (by omega) (by omega), h 783 (by omega) (by omega), h 784 (by omega) (by omega), h 785 (by omega) (by omega), h 786 (by omega) (by omega), h 787 (by omega) (by omega), h 788 (by omega) (by omega), h 789 (by omega) (by omega)]
  exact slE.rf V c
theorem rhA.kp {V V' : Int → Int → Int} {c : Int} {q : gbH} (h : rhA V c q) (hf : ∀ a, 793 ≤ a → a ≤ 799 → V' a = V a) : rhA V' c q := by
  unfold rhA at h ⊢
  rw [hf 793 (by omega) (by omega), hf 794 (by omega) (by omega), hf 795 (by omega) (by omega), hf 796 (by omega) (by omega), hf 797 (by omega) (by omega), hf 798 (by omega) (by omega), hf 799 (by omega) (by omega)]
  exact h
section MD20
variable {l : Launch} {E : gE} {d : Nat} {K : List gK} {R V : Int → Int → Int} {h : Int} {Q : gQ} {S : gbS}
theorem cls_bd (q : gbH) (h : hInv q) : 0 ≤ clsC q.1 q.2.2.2.1 ∧ clsC q.1 q.2.2.2.1 ≤ 9 := by
  have h4 := h.2.2.1
  unfold clsC
  rw [clsF_5]
  have e : ∀ j, 0 ≤ b1' q.2.2.2.1 j ∧ b1' q.2.2.2.1 j ≤ 1 := fun j => by unfold b1'; split <;> omega
  have e1 := e 1
  have e2 := e 2
  have e3 := e 3
  have e4 := e 4
  have e5 := e 5
  omega
set_option maxRecDepth 4000 in
theorem m_hand (hM : mdK K R) (hS : mdIs V S) (hby : ∀ x ∈ S.2.2.1, 0 ≤ x) (hfn : -100 ≤ (hdR S.2.2.1).1.2.2.1 ∧ (hdR S.2.2.1).1.2.2.1 ≤ 100) (hQ : ∀ V', mdIs V' (aHand S h).2 → gFr V V' 775 819 → Q (some (gi (aHand S h).1)) (K, R, V')) : gC l E (d + 5) iX12_hand [ga 775, gi h] (K, R, V) Q := by
  refine gC_of kX12_hand (ls := [some (ga 775), some (gi h), none, none]) rfl (Nat.le_of_ble_eq_true rfl) ?_
  have hn0 := hS.1
  have hn1 := hS.2.1
  have ht := hS.2.2.2.2.2.2
  have hyl := ht.2.1
  refine gX_iloadn dX12_hand_0 rfl ?_
  refine gX_i2l dX12_hand_1 ?_
  refine gX_lconst (x := 0) dX12_hand_2 (by decide) ⟨by decide, by decide⟩ ?_
  refine gX_ldc2 (x := 3) dX12_hand_3 clX12_294 (by decide) ⟨by decide, by decide⟩ ?_
  refine gX_stat (J := iX12_in) (av := [gl h, gl 0, gl 3]) (st := []) dX12_hand_6 lkX12_154 kX12_in sX12_in (gFit_m (by decide)) rfl (Nat.le_of_ble_eq_true rfl) (Nat.zero_le _) (Nat.zero_le _) rfl ?_
  refine m_in ?_
  show gX l E _ 9 [some (ga 775), some (gi h), none, none] [gi (b2i (inR h 0 3))] (K, R, V) _ _
  refine gX_ifne (tgt := 16) dX12_hand_9 (by decide) (fun m1 => ?_) (fun m1 => ?_)
  · have m1 := inR_1 m1
    have hr : 0 ≤ h ∧ h < 4 := ⟨by omega, by omega⟩
    refine gX_aloadn dX12_hand_16 rfl ?_
    refine gX_gI 16 dX12_hand_17 fdX12_162 rfl (Or.inl rfl) hM.1 ?_
    rw [ht.1]
    refine gX_sipush dX12_hand_20 (by decide) ⟨by decide, by decide⟩ ?_
    refine gX_icmple (tgt := 30) dX12_hand_23 (by decide) (fun m2 => ?_) (fun m2 => ?_)
    · have tF : ∀ (f : Int) (k2 : Option gV) (V1 : Int → Int → Int) (bc bs : Nat), 0 < f → f = (hdR S.2.2.1).1.2.2.1 → V1 775 17 = (hdR S.2.2.1).1.2.2.2 → hRF V V1 → gX l E (gFm E (d + 5) iX12_hand Q) 48 [some (ga 775), some (gi h), k2, some (gi f)] [] (K, R, V1) bc bs := by
        intro f k2 V1 bc bs hf0 hfe hfa hfr
        refine gX_iloadn dX12_hand_48 rfl ?_
        refine gX_ifne (tgt := 70) dX12_hand_49 (by decide) (fun t1 => ?_) (fun t1 => ?_)
        · refine gX_aloadn dX12_hand_70 rfl ?_
          refine gX_iconst dX12_hand_71 ⟨by decide, by decide⟩ ?_
          refine gX_pI 16 dX12_hand_72 fdX12_162 fpX12_162 rfl (Or.inl rfl) hM.1 ?_
          refine gX_iloadn dX12_hand_75 rfl ?_
          refine gX_ifle (tgt := 84) dX12_hand_76 (by decide) (fun t2 => ?_) (fun t2 => ?_)
          · exfalso
            omega
          · refine gX_bipush dX12_hand_79 (by decide) ⟨by decide, by decide⟩ ?_
            refine gX_iloadn dX12_hand_81 rfl ?_
            refine gX_isub dX12_hand_82 ⟨by omega, by omega⟩ ?_
            refine gX_iret dX12_hand_83 (Or.inl rfl) ?_
            have ea : aHand S h = (-10 - (hdR S.2.2.1).1.2.2.1, (S.1, S.2.1, [], (hdR S.2.2.1).1.2.2.2)) := by
              unfold aHand
              rw [if_pos hr, if_neg (by omega), if_neg (by omega)]
            rw [ea] at hQ
            rw [hfe]
            refine hQ _ ⟨by rw [gup_k (by omega), hfr.2 0 (by omega)]; exact hS.1, hS.2.1, by rw [gup_k (by omega)]; exact hfa, fun c c0 c1 => (hS.2.2.2.1 c c0 c1).of (slE_of (fun a a0 a1 => by rw [gup_ne (by omega)]; exact hfr.1 a (by omega)) c), hS.2.2.2.2.1, fun c c0 c1 => (hS.2.2.2.2.2.1 c c0 c1).kp (fun a a0 a1 => by rw [gup_ne (by omega)]; exact hfr.1 a (by omega)), ⟨gup_s, Nat.zero_le _, fun j x hj => by cases hj⟩⟩ (fun a ha => by rw [gup_ne (by omega)]; exact hfr.1 a (by omega))
        · exfalso
          omega
      refine gX_aloadn dX12_hand_30 rfl ?_
      refine gX_iconst dX12_hand_31 ⟨by decide, by decide⟩ ?_
      refine gX_pI 17 dX12_hand_32 fdX12_55 fpX12_55 rfl (Or.inl rfl) hM.1 ?_
      refine gX_aloadn dX12_hand_35 rfl ?_
      refine gX_iconst dX12_hand_36 ⟨by decide, by decide⟩ ?_
      refine gX_pI 18 dX12_hand_37 fdX12_167 fpX12_167 rfl (Or.inl rfl) hM.1 ?_
      refine gX_aloadn dX12_hand_40 rfl ?_
      refine gX_virt (J := iX12_bareHand) (av := []) (a := 775) (st := []) dX12_hand_41 lkX12_144 kX12_bareHand vX12_bareHand (gFit_m (by decide)) hM.1 rfl rfl (Nat.le_of_ble_eq_true rfl) (Nat.zero_le _) (Nat.zero_le _) rfl ?_
      refine m_bareHand hM (fun Vb hrb hfb => ?_)
      show gX l E _ 44 [some (ga 775), some (gi h), none, none] [] (K, R, Vb) _ _
      refine gX_iconst dX12_hand_44 ⟨by decide, by decide⟩ ?_
      refine gX_istoren dX12_hand_45 (show (2 : Nat) < 4 from by decide) (ls2 := [some (ga 775), some (gi h), some (gi 0), none]) rfl ?_
      refine gX_iconst dX12_hand_46 ⟨by decide, by decide⟩ ?_
      refine gX_istoren dX12_hand_47 (show (3 : Nat) < 4 from by decide) (ls2 := [some (ga 775), some (gi h), some (gi 0), some (gi 0)]) rfl ?_
      have hfr0 : hRF V Vb := ⟨fun a ha => by rw [hfb.1 a (by omega) (by omega), gup_ne (by omega), gup_ne (by omega)], fun k hk => by rw [hfb.2 k (by omega) (by omega) (by omega), gup_k (by omega), gup_k (by omega)]⟩
      have lp : ∀ (jj : Nat) (s : hR) (n : Int) (m : Nat) (V1 : Int → Int → Int) (bc bs : Nat), (S.2.2.1.length : Int) - s.1.1 < (jj : Int) → hRl V1 S.2.2.1 s → hInv s.2 → n = clsC s.2.1 s.2.2.2.2.1 → (S.2.2.1.length : Int) - s.1.1 ≤ m → rdH S.2.2.1 m 1 s = (hdR S.2.2.1) → hRF V V1 → 0 ≤ n ∧ n ≤ 9 → gX l E (gFm E (d + 5) iX12_hand Q) 48 [some (ga 775), some (gi h), some (gi n), some (gi 0)] [] (K, R, V1) bc bs := by
        intro jj
        induction jj with
        | zero =>
          intro s n m V1 bc bs hj hrl hin hn9 hm9 hrd hfr hnb
          exfalso; have := hrl.2.2.1.2; omega
        | succ jj ih =>
          intro s n m V1 bc bs hj hrl hin hn9 hm9 hrd hfr hnb
          have hpk := pkB_in (ys := S.2.2.1) hrl.2.2.1.1 hrl.2.2.1.2
          have hs00 := hrl.2.2.1.1
          have hs01 := hrl.2.2.1.2
          refine gX_iloadn dX12_hand_48 rfl ?_
          refine gX_ifne (tgt := 70) dX12_hand_49 (by decide) (fun b1 => by exfalso; omega) (fun b1 => ?_)
          refine gX_aloadn dX12_hand_52 rfl ?_
          refine gX_virt (J := iX12_here) (av := []) (a := 775) (st := []) dX12_hand_53 lkX12_170 kX12_here vX12_here (gFit_m (by decide)) hM.1 rfl rfl (Nat.le_of_ble_eq_true rfl) (Nat.zero_le _) (Nat.zero_le _) rfl ?_
          refine m_here hM hrl.1 hrl.2.1 hrl.2.2.1.1 hrl.2.2.1.2 (fun V2 h218 hfa2 => ?_)
          show gX l E _ 56 [some (ga 775), some (gi h), some (gi n), some (gi 0)] [gi (lat S.2.2.1 (pkB S.2.2.1 s.1.1))] (K, R, V2) _ _
          refine gX_iflt (tgt := 70) dX12_hand_56 (by decide) (fun b2 => ?_) (fun b2 => ?_)
          · have hlt1 : lat S.2.2.1 (pkB S.2.2.1 s.1.1) = -1 := by
              rcases lat_cs S.2.2.1 (pkB S.2.2.1 s.1.1) with z9 | z9
              · exact z9
              · exact absurd (hby _ z9) (by omega)
            have err : (hdR S.2.2.1) = s ∨ (hdR S.2.2.1) = (pkH S.2.2.1 s) := by
              rw [← hrd]
              cases m with
              | zero => exact Or.inl rfl
              | succ m =>
                refine Or.inr ?_
                show (if (1 : Int) = 0 then s else if lat S.2.2.1 (pkB S.2.2.1 s.1.1) = -1 then (pkH S.2.2.1 s) else _) = _
                rw [if_neg (by decide), if_pos hlt1]
            have er2 : (hdR S.2.2.1).2 = s.2 := by rcases err with z9 | z9 <;> rw [z9] <;> rfl
            have er3 : (hdR S.2.2.1).1.2.2.1 = 0 := by rcases err with z9 | z9 <;> rw [z9] <;> exact hrl.2.2.2.1.1
            have er4 : (hdR S.2.2.1).1.2.2.2 = -1 := by rcases err with z9 | z9 <;> rw [z9] <;> exact hrl.2.2.2.1.2.1
            refine gX_aloadn dX12_hand_70 rfl ?_
            refine gX_iconst dX12_hand_71 ⟨by decide, by decide⟩ ?_
            refine gX_pI 16 dX12_hand_72 fdX12_162 fpX12_162 rfl (Or.inl rfl) hM.1 ?_
            refine gX_iloadn dX12_hand_75 rfl ?_
            refine gX_ifle (tgt := 84) dX12_hand_76 (by decide) (fun b3 => ?_) (fun b3 => by exfalso; omega)
            refine gX_aloadn dX12_hand_84 rfl ?_
            refine gX_iloadn dX12_hand_85 rfl ?_
            refine gX_virt (J := iX12_keepHand) (av := [gi h]) (a := 775) (st := []) dX12_hand_86 lkX12_147 kX12_keepHand vX12_keepHand (gFit_m (by decide)) hM.1 rfl rfl (Nat.le_of_ble_eq_true rfl) (Nat.zero_le _) (Nat.zero_le _) rfl ?_
            refine m_keepHand (q := s.2) hM hr (hrl.2.2.2.2.k (by rw [gup_k (by omega)]; exact hfa2.2 36 (by omega)) (by rw [gup_k (by omega)]; exact hfa2.2 41 (by omega)) (by rw [gup_k (by omega)]; exact hfa2.2 42 (by omega)) (fun a a0 a1 => by rw [gup_ne (by omega)]; exact hfa2.1 a (by omega))) (fun V3 hr3 hf3 => ?_)
            show gX l E _ 89 [some (ga 775), some (gi h), some (gi n), some (gi 0)] [] (K, R, V3) _ _
            refine gX_iloadn dX12_hand_89 rfl ?_
            refine gX_iret dX12_hand_90 (Or.inl rfl) ?_
            have ea : aHand S h = (clsC s.2.1 s.2.2.2.2.1, (S.1, S.2.1.set h.toNat s.2, [], -1)) := by
              unfold aHand
              rw [if_pos hr, if_neg (by omega), if_pos er3, er2, er4]
            rw [ea] at hQ
            rw [hn9]
            have hz16 : ∀ a, a ≠ 775 → gup V2 775 16 0 a = V2 a := fun a ha => gup_ne ha
            refine hQ V3 ⟨by rw [hf3 775 0 (by unfold inHd; omega), gup_k (by omega), hfa2.2 0 (by omega), hfr.2 0 (by omega)]; exact hS.1, hS.2.1, by rw [hf3 775 17 (by unfold inHd; omega), gup_k (by omega), hfa2.2 17 (by omega)]; exact hrl.2.2.2.1.2.2, fun c c0 c1 => (hS.2.2.2.1 c c0 c1).of (slE_of (fun a a0 a1 => ?_) c), by show (S.2.1.set h.toNat s.2).length = 4; rw [List.length_set]; exact hS.2.2.2.2.1, fun c c0 c1 => ?_, ⟨by rw [hf3 775 16 (by unfold inHd; omega)]; exact gup_s, Nat.zero_le _, fun j x hj => by cases hj⟩⟩ (fun a ha => ?_)
            · rw [show V3 a = gup V2 775 16 0 a from funext fun k => hf3 a k (by unfold inHd; omega), gup_ne (by omega), hfa2.1 a (by omega)]; exact hfr.1 a (by omega)
            · rw [ghq_set hS.2.2.2.2.1 hr c0]
              by_cases ec : c = h
              · rw [if_pos ec, ec]; exact hr3
              · rw [if_neg ec]
                refine rhA.of ?_ hf3 ec
                exact (hS.2.2.2.2.2.1 c c0 c1).kp (fun a a0 a1 => by rw [gup_ne (by omega), hfa2.1 a (by omega)]; exact hfr.1 a (by omega))
            · rw [show V3 a = gup V2 775 16 0 a from funext fun k => hf3 a k (by unfold inHd; omega), gup_ne (by omega), hfa2.1 a (by omega)]; exact hfr.1 a (by omega)
          · obtain ⟨m9, rfl⟩ : ∃ m9, m = m9 + 1 := ⟨m - 1, by
              have : (pkB S.2.2.1 s.1.1) < S.2.2.1.length := Decidable.byContradiction fun z => by
                have z9 := lat_out (xs := S.2.2.1) (i := (pkB S.2.2.1 s.1.1)) (by omega)
                omega
              omega⟩
            have herr : rdH S.2.2.1 m9 (rdCl S.2.2.1 (pkH S.2.2.1 s)).1 (rdCl S.2.2.1 (pkH S.2.2.1 s)).2 = (hdR S.2.2.1) := by
              rw [← hrd]
              show _ = (if (1 : Int) = 0 then s else if lat S.2.2.1 (pkB S.2.2.1 s.1.1) = -1 then (pkH S.2.2.1 s) else rdH S.2.2.1 m9 (rdCl S.2.2.1 (pkH S.2.2.1 s)).1 (rdCl S.2.2.1 (pkH S.2.2.1 s)).2)
              rw [if_neg (by decide), if_neg (by omega)]
            have hRFq : hRF V1 V2 := ⟨fun a ha => hfa2.1 a (by omega), fun k hk => hfa2.2 k (by omega)⟩
            have hpl : hRl V2 S.2.2.1 (pkH S.2.2.1 s) := ⟨hrl.1.h hRFq, h218, ⟨by show 0 ≤ (pkB S.2.2.1 s.1.1); omega, hpk.2⟩, ⟨hrl.2.2.2.1.1, hrl.2.2.2.1.2.1, by rw [hfa2.2 17 (by omega)]; exact hrl.2.2.2.1.2.2⟩, hrl.2.2.2.2.k (hfa2.2 36 (by omega)) (hfa2.2 41 (by omega)) (hfa2.2 42 (by omega)) (fun a a0 a1 => hfa2.1 a (by omega))⟩
            have hok := rdCl_ok (ys := S.2.2.1) (s := (pkH S.2.2.1 s)) hpl.2.2.1.1 hpl.2.2.1.2 ⟨hpl.2.2.2.1.1, hpl.2.2.2.1.2.1⟩ hin
            refine gX_aloadn dX12_hand_59 rfl ?_
            refine gX_virt (J := iX12_takeHabit) (av := []) (a := 775) (st := []) dX12_hand_60 lkX12_296 kX12_takeHabit vX12_takeHabit (gFit_m (by decide)) hM.1 rfl rfl (Nat.le_of_ble_eq_true rfl) (Nat.zero_le _) (Nat.zero_le _) rfl ?_
            refine m_takeHabit (s := (pkH S.2.2.1 s)) hM hpl ⟨hin.1, hin.2.1, hin.2.2.2.1, fun j => by have := hin.2.2.2.2.1 j; show -1 ≤ lat s.2.2.2.2.1 j; omega⟩ (fun Vh hhok hh17 hfh => ?_)
            show gX l E _ 63 [some (ga 775), some (gi h), some (gi n), some (gi 0)] [gi ((rdCl S.2.2.1 (pkH S.2.2.1 s)).2.1.2.2.1)] (K, R, Vh) _ _
            refine gX_istoren dX12_hand_63 (show (3 : Nat) < 4 from by decide) (ls2 := [some (ga 775), some (gi h), some (gi n), some (gi ((rdCl S.2.2.1 (pkH S.2.2.1 s)).2.1.2.2.1))]) rfl ?_
            refine gX_iinc dX12_hand_64 rfl (show (2 : Nat) < 4 from by decide) ⟨by omega, by omega⟩ (ls2 := [some (ga 775), some (gi h), some (gi (n + 1)), some (gi ((rdCl S.2.2.1 (pkH S.2.2.1 s)).2.1.2.2.1))]) rfl ?_
            refine gX_goto (tgt := 48) dX12_hand_67 (by decide) ?_
            rcases hok with y | ⟨y1, y2, y3, y4, y5⟩
            · refine tF _ _ _ _ _ (by omega) ?_ ?_ (hfr.trans (hRFq.trans hfh))
              · rw [← herr, y.1, rdH_0]
              · rw [hh17, ← herr, y.1, rdH_0]
            · rw [y2.1]
              have y6 := cls_bd _ y4
              exact ih (rdCl S.2.2.1 (pkH S.2.2.1 s)).2 _ m9 _ _ _ (by have y30 : (pkH S.2.2.1 s).1.1 = (pkB S.2.2.1 s.1.1) := rfl; omega) (hhok y2.1) y4 (by rw [y5]; show n + 1 = clsC s.2.1 s.2.2.2.2.1 + 1; omega) (by have y30 : (pkH S.2.2.1 s).1.1 = (pkB S.2.2.1 s.1.1) := rfl; omega) (by rw [← herr, y1]) (hfr.trans (hRFq.trans hfh)) (by have y7 : clsC (rdCl S.2.2.1 (pkH S.2.2.1 s)).2.2.1 (rdCl S.2.2.1 (pkH S.2.2.1 s)).2.2.2.2.2.1 = clsC s.2.1 s.2.2.2.2.1 + 1 := y5; omega)
      exact lp (S.2.2.1.length + 1) ((0, 0, 0, -1), [], [], [], List.replicate 6 (-1), -1, -1) 0 160 Vb _ _ (by show (S.2.2.1.length : Int) - 0 < _; omega) ⟨ht.h hfr0, by rw [hfb.2 18 (by omega) (by omega) (by omega)]; exact gup_s, ⟨Int.le_refl _, by show (0 : Int) ≤ S.2.2.1.length; omega⟩, ⟨rfl, rfl, by rw [hfb.2 17 (by omega) (by omega) (by omega), gup_k (by omega)]; exact gup_s⟩, hrb⟩ hInv_E (by decide) (by show (S.2.2.1.length : Int) - 0 ≤ ((160 : Nat) : Int); omega) rfl hfr0 (by omega)
    · refine gX_sipush dX12_hand_26 (by decide) ⟨by decide, by decide⟩ ?_
      refine gX_iret dX12_hand_29 (Or.inl rfl) ?_
      have ea : aHand S h = (-1002, S) := by
        unfold aHand
        rw [if_pos (by omega), if_pos (by omega)]
      rw [ea] at hQ
      exact hQ V hS gFr.rf
  · have m1 := inR_0 m1
    refine gX_sipush dX12_hand_12 (by decide) ⟨by decide, by decide⟩ ?_
    refine gX_iret dX12_hand_15 (Or.inl rfl) ?_
    have ea : aHand S h = (-1001, S) := by
      unfold aHand
      rw [if_neg (by omega)]
    rw [ea] at hQ
    exact hQ V hS gFr.rf
end MD20
