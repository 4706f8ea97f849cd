/-! GlossedBooks: the calls that change. Written by wip/whole/tools/mk_gb2.py. -/
def fdF (x : Int) : Nat → List Int
  | 0 => []
  | k + 1 => gand (gl2i (glushr x (8 * (k : Int)))) 255 :: fdF x k
def aFeed (S : gbS) (n x : Int) : Int × gbS := if n < 1 ∨ 8 < n then (-1002, S) else if 320 < (S.2.2.1.length : Int) + n then (-1004, S) else (((S.2.2.1 ++ fdF x n.toNat).length : Int), (S.1, S.2.1, S.2.2.1 ++ fdF x n.toNat, S.2.2.2))
def bkR (ys : List Int) (lf : Int) : bR := rdE (rdB ys 320 1 ((0, 0, 0, -1), [], [], 0, -1, lf))
def aBook (S : gbS) (lf : Int) : Int × gbS := if S.1.length < 10 then (if (bkR S.2.2.1 lf).1.2.2.1 = 0 then ((S.1.length : Int), (S.1 ++ [((bkR S.2.2.1 lf).2.1, (bkR S.2.2.1 lf).2.2.1, -1, -1, List.replicate 6 0, List.replicate 6 0)], S.2.1, [], (bkR S.2.2.1 lf).1.2.2.2)) else (-10 - (bkR S.2.2.1 lf).1.2.2.1, (S.1, S.2.1, [], (bkR S.2.2.1 lf).1.2.2.2))) else (-1004, S)
def hdR (ys : List Int) : hR := rdH ys 160 1 ((0, 0, 0, -1), [], [], [], List.replicate 6 (-1), -1, -1)
def aHand (S : gbS) (h : Int) : Int × gbS := if 0 ≤ h ∧ h < 4 then (if 160 < S.2.2.1.length then (-1002, S) else if (hdR S.2.2.1).1.2.2.1 = 0 then (clsC (hdR S.2.2.1).2.1 (hdR S.2.2.1).2.2.2.2.1, (S.1, S.2.1.set h.toNat (hdR S.2.2.1).2, [], (hdR S.2.2.1).1.2.2.2)) else (-10 - (hdR S.2.2.1).1.2.2.1, (S.1, S.2.1, [], (hdR S.2.2.1).1.2.2.2))) else (-1001, S)
def cpE (q : gbB) (h : gbH) : cS := wrE h.1 h.2.1 h.2.2.1 h.2.2.2.1 h.2.2.2.2.1 h.2.2.2.2.2 (q.1, q.2.1, List.replicate 6 0, List.replicate 6 0)
def aCopy (S : gbS) (b h : Int) : Int × gbS := if (0 ≤ b ∧ b < S.1.length) ∧ (0 ≤ h ∧ h < 4) then (if S.1.length < 10 then ((S.1.length : Int), (S.1 ++ [((cpE (gbq S b) (ghq S h)).1, (cpE (gbq S b) (ghq S h)).2.1, b, h, (cpE (gbq S b) (ghq S h)).2.2.1, (cpE (gbq S b) (ghq S h)).2.2.2)], S.2)) else (-1004, S)) else (-1001, S)
def aAmend (S : gbS) (b i w : Int) : Int × gbS := if 0 ≤ b ∧ b < S.1.length then (if (0 ≤ i ∧ i < (gbq S b).1.length) ∧ (0 ≤ w ∧ w ≤ 63) then (lat (gbq S b).1 i, (S.1.set b.toNat (lput (gbq S b).1 i w, (gbq S b).2), S.2)) else (-1002, S)) else (-1001, S)
def lfG (q : gbB) (g : Int) : List gG := reN (awayG q.2.1 g)
def aLift (S : gbS) (b g : Int) : Int × gbS := if 0 ≤ b ∧ b < S.1.length then (if 0 ≤ g ∧ g < (gbq S b).2.1.length then (((gbq S b).2.1.length : Int) - ((lfG (gbq S b) g).length : Int), (S.1.set b.toNat ((gbq S b).1, lfG (gbq S b) g, (gbq S b).2.2), S.2)) else (-1001, S)) else (-1001, S)
section GB2
variable {l : Launch} {E : gE} {d : Nat} {K : List gK} {R V : Int → Int → Int} {D T P S' A W L U B H b h i w n x g : Int} {Q : gQ} {S : gbS}
set_option maxRecDepth 4000 in
theorem c_feed (hG : gbK K R D T P S' A W L U) (hS : gbIs V S) (hQ : ∀ V', gbIs V' (aFeed S n x).2 → gFr V V' 0 775 → Q (some (gi (aFeed S n x).1)) (K, R, V')) : gC l E (d + 2) iX11_feed [ga 0, gi n, gl x] (K, R, V) Q := by
  refine gC_of kX11_feed (ls := [some (ga 0), some (gi n), some (gl x), none, none]) rfl (Nat.le_of_ble_eq_true rfl) ?_
  have hG0 := hG
  obtain ⟨⟨eD, eT, eP, eS, eA, eW, eL, eU⟩, hO, ⟨r0, r1, r2, r3, r4, r5, r6, r7, r8, r9⟩, k1, k2, hDr, hTo, hRe, hSc, hAl, hWt, hTr, hPr, hBk, hHd⟩ := hG
  have hn0 := hS.1
  have hn1 := hS.2.1
  have hy : rIs V (T + 1) 320 S.2.2.1 := by rw [eT]; exact hS.2.2.2.2.2.2
  have hyl := hy.2.1
  have lp : ∀ (jj : Nat) (k : Int) (ys : List Int) (V1 : Int → Int → Int) (bc bs : Nat), k + 1 < (jj : Int) → -1 ≤ k → k ≤ 7 → rIs V1 (T + 1) 320 ys → (ys.length : Int) + (k + 1) ≤ 320 → rFr V V1 (T + 1) → (∀ V', rIs V' (T + 1) 320 (ys ++ fdF x (k + 1).toNat) → rFr V V' (T + 1) → Q (some (gi ((ys ++ fdF x (k + 1).toNat).length))) (K, R, V')) → gX l E (gFm E (d + 2) iX11_feed Q) 42 [some (ga 0), some (gi n), some (gl x), none, some (gi k)] [] (K, R, V1) bc bs := by
    intro jj
    induction jj with
    | zero =>
      intro k ys V1 bc bs hj q0 q1 hx1 q2 hf1 hq2
      exfalso; omega
    | succ jj ih =>
      intro k ys V1 bc bs hj q0 q1 hx1 q2 hf1 hq2
      refine gX_iload dX11_feed_42 rfl ?_
      refine gX_iflt (tgt := 75) dX11_feed_44 (by decide) (fun w1 => ?_) (fun w1 => ?_)
      · refine gX_aloadn dX11_feed_75 rfl ?_
        refine gX_gR 3 dX11_feed_76 fdX11_29 rfl rfl hO r3 ?_
        refine gX_gR 0 dX11_feed_79 fdX11_85 rfl rfl hTo.1 hTo.2.1 ?_
        refine gX_virt (J := iX6_length) (av := []) (a := (T + 1)) (st := []) dX11_feed_82 lkX11_88 kX6_length vX6_length (gFit_m (by decide)) hTo.2.2.1 rfl rfl (Nat.le_of_ble_eq_true rfl) (Nat.zero_le _) (Nat.zero_le _) rfl ?_
        refine q_Row_length hTo.2.2 hx1 ?_
        show gX l E _ 85 [some (ga 0), some (gi n), some (gl x), none, some (gi k)] [gi ys.length] (K, R, V1) _ _
        refine gX_iret dX11_feed_85 (Or.inl rfl) ?_
        have e0 : (k + 1).toNat = 0 := by omega
        rw [e0] at hq2
        rw [show ys ++ fdF x 0 = ys from List.append_nil ys] at hq2
        exact hq2 V1 hx1 hf1
      · refine gX_aloadn dX11_feed_47 rfl ?_
        refine gX_gR 3 dX11_feed_48 fdX11_29 rfl rfl hO r3 ?_
        refine gX_gR 0 dX11_feed_51 fdX11_85 rfl rfl hTo.1 hTo.2.1 ?_
        refine gX_lloadn dX11_feed_54 rfl ?_
        refine gX_bipush dX11_feed_55 (by decide) ⟨by decide, by decide⟩ ?_
        refine gX_iload dX11_feed_57 rfl ?_
        refine gX_imul dX11_feed_59 ⟨by omega, by omega⟩ ?_
        refine gX_lushr dX11_feed_60 ?_
        refine gX_l2i dX11_feed_61 ?_
        refine gX_sipush dX11_feed_62 (by decide) ⟨by decide, by decide⟩ ?_
        refine gX_iand dX11_feed_65 ?_
        refine gX_virt (J := iX6_add) (av := [gi (gand (gl2i (glushr x (8 * k))) 255)]) (a := (T + 1)) (st := []) dX11_feed_66 lkX11_92 kX6_add vX6_add (gFit_m (by decide)) hTo.2.2.1 rfl rfl (Nat.le_of_ble_eq_true rfl) (Nat.zero_le _) (Nat.zero_le _) rfl ?_
        refine q_Row_add hTo.2.2 hx1 (fun V2 hx2 hf2 => ?_)
        show gX l E _ 69 [some (ga 0), some (gi n), some (gl x), none, some (gi k)] [] (K, R, V2) _ _
        refine gX_iinc dX11_feed_69 rfl (show (4 : Nat) < 5 from by decide) ⟨by omega, by omega⟩ (ls2 := [some (ga 0), some (gi n), some (gl x), none, some (gi (k + (-1)))]) rfl ?_
        refine gX_goto (tgt := 42) dX11_feed_72 (by decide) ?_
        have e0 : (k + 1).toNat = k.toNat + 1 := by omega
        have e1 : ((k.toNat : Nat) : Int) = k := by omega
        have e2 : ys ++ fdF x (k + 1).toNat = ladd 320 ys (gand (gl2i (glushr x (8 * k))) 255) ++ fdF x (k + (-1) + 1).toNat := by
          rw [e0, show (k + (-1) + 1).toNat = k.toNat by omega]
          unfold ladd
          rw [if_pos (by omega)]
          show ys ++ (gand (gl2i (glushr x (8 * ((k.toNat : Nat) : Int)))) 255 :: fdF x k.toNat) = _
          rw [e1, List.append_assoc]
          rfl
        rw [e2] at hq2
        refine ih (k + (-1)) _ V2 _ _ (by omega) (by omega) (by omega) hx2 ?_ (hf1.trans hf2) hq2
        unfold ladd
        rw [if_pos (by omega), List.length_append]
        show ((ys.length + 1 : Nat) : Int) + (k + (-1) + 1) ≤ 320
        omega
  refine gX_iloadn dX11_feed_0 rfl ?_
  refine gX_iconst dX11_feed_1 ⟨by decide, by decide⟩ ?_
  refine gX_icmplt (tgt := 11) dX11_feed_2 (by decide) (fun m1 => ?_) (fun m1 => ?_)
  · refine gX_sipush dX11_feed_11 (by decide) ⟨by decide, by decide⟩ ?_
    refine gX_iret dX11_feed_14 (Or.inl rfl) ?_
    have ea : aFeed S n x = (-1002, S) := by
      unfold aFeed
      rw [if_pos (by omega)]
    rw [ea] at hQ
    exact hQ V hS gFr.rf
  · refine gX_iloadn dX11_feed_5 rfl ?_
    refine gX_bipush dX11_feed_6 (by decide) ⟨by decide, by decide⟩ ?_
    refine gX_icmple (tgt := 15) dX11_feed_8 (by decide) (fun m2 => ?_) (fun m2 => ?_)
    · refine gX_aloadn dX11_feed_15 rfl ?_
      refine gX_gR 3 dX11_feed_16 fdX11_29 rfl rfl hO r3 ?_
      refine gX_gR 0 dX11_feed_19 fdX11_85 rfl rfl hTo.1 hTo.2.1 ?_
      refine gX_virt (J := iX6_length) (av := []) (a := (T + 1)) (st := []) dX11_feed_22 lkX11_88 kX6_length vX6_length (gFit_m (by decide)) hTo.2.2.1 rfl rfl (Nat.le_of_ble_eq_true rfl) (Nat.zero_le _) (Nat.zero_le _) rfl ?_
      refine q_Row_length hTo.2.2 hy ?_
      show gX l E _ 25 [some (ga 0), some (gi n), some (gl x), none, none] [gi S.2.2.1.length] (K, R, V) _ _
      refine gX_iloadn dX11_feed_25 rfl ?_
      refine gX_iadd dX11_feed_26 ⟨by omega, by omega⟩ ?_
      refine gX_sipush dX11_feed_27 (by decide) ⟨by decide, by decide⟩ ?_
      refine gX_icmple (tgt := 37) dX11_feed_30 (by decide) (fun m3 => ?_) (fun m3 => ?_)
      · refine gX_iloadn dX11_feed_37 rfl ?_
        refine gX_iconst dX11_feed_38 ⟨by decide, by decide⟩ ?_
        refine gX_isub dX11_feed_39 ⟨by omega, by omega⟩ ?_
        refine gX_istore dX11_feed_40 (show (4 : Nat) < 5 from by decide) (ls2 := [some (ga 0), some (gi n), some (gl x), none, some (gi (n - 1))]) rfl ?_
        have ea : aFeed S n x = (((S.2.2.1 ++ fdF x n.toNat).length : Int), (S.1, S.2.1, S.2.2.1 ++ fdF x n.toNat, S.2.2.2)) := by
          unfold aFeed
          rw [if_neg (by omega), if_neg (by omega)]
        rw [ea] at hQ
        refine lp 9 (n - 1) S.2.2.1 V _ _ (by omega) (by omega) (by omega) hy (by omega) (fun _ _ _ => rfl) ?_
        rw [show (n - 1 + 1).toNat = n.toNat by omega]
        intro V' hx' hf'
        refine hQ V' (hS.frB (fun a g1 g2 => hf' a (by omega) (by omega)) (fun a g1 g2 => hf' a (by omega) (by omega)) (by rw [hf' 0 (by omega) (by omega)]; exact hS.1) (by rw [hf' 0 (by omega) (by omega)]; exact hS.2.2.1) ?_) (hf'.fr (by omega) (by omega))
        rw [eT] at hx'
        exact hx'
      · refine gX_sipush dX11_feed_33 (by decide) ⟨by decide, by decide⟩ ?_
        refine gX_iret dX11_feed_36 (Or.inl rfl) ?_
        have ea : aFeed S n x = (-1004, S) := by
          unfold aFeed
          rw [if_neg (by omega), if_pos (by omega)]
        rw [ea] at hQ
        exact hQ V hS gFr.rf
    · refine gX_sipush dX11_feed_11 (by decide) ⟨by decide, by decide⟩ ?_
      refine gX_iret dX11_feed_14 (Or.inl rfl) ?_
      have ea : aFeed S n x = (-1002, S) := by
        unfold aFeed
        rw [if_pos (by omega)]
      rw [ea] at hQ
      exact hQ V hS gFr.rf
set_option maxRecDepth 4000 in
theorem c_endReading {ys : List Int} {t : tS} (hG : gbK K R D T P S' A W L U) (ht : toIs V T ys t) (hQ : ∀ V', toIs V' T [] t → V' 0 11 = t.2.2.2 → (∀ k, k ≠ 11 → V' 0 k = V 0 k) → (∀ a, a ≠ 0 → a ≠ T + 1 → a ≠ T + 2 → V' a = V a) → Q (some (gi t.2.2.1)) (K, R, V')) : gC l E (d + 2) iX11_endReading [ga 0] (K, R, V) Q := by
  refine gC_of kX11_endReading (ls := [some (ga 0)]) rfl (Nat.le_of_ble_eq_true rfl) ?_
  have hG0 := hG
  obtain ⟨⟨eD, eT, eP, eS, eA, eW, eL, eU⟩, hO, ⟨r0, r1, r2, r3, r4, r5, r6, r7, r8, r9⟩, k1, k2, hDr, hTo, hRe, hSc, hAl, hWt, hTr, hPr, hBk, hHd⟩ := hG
  refine gX_aloadn dX11_endReading_0 rfl ?_
  refine gX_gR 3 dX11_endReading_1 fdX11_29 rfl rfl hO r3 ?_
  refine gX_gR 0 dX11_endReading_4 fdX11_85 rfl rfl hTo.1 hTo.2.1 ?_
  refine gX_virt (J := iX6_clear) (av := []) (a := (T + 1)) (st := []) dX11_endReading_7 lkX11_305 kX6_clear vX6_clear (gFit_m (by decide)) hTo.2.2.1 rfl rfl (Nat.le_of_ble_eq_true rfl) (Nat.zero_le _) (Nat.zero_le _) rfl ?_
  refine q_Row_clear hTo.2.2 (fun V1 hx1 hf1 => ?_)
  show gX l E _ 10 [some (ga 0)] [] (K, R, V1) _ _
  refine gX_aloadn dX11_endReading_10 rfl ?_
  refine gX_aloadn dX11_endReading_11 rfl ?_
  refine gX_gR 3 dX11_endReading_12 fdX11_29 rfl rfl hO r3 ?_
  refine gX_gI 4 dX11_endReading_15 fdX11_308 rfl (Or.inl rfl) hTo.1 ?_
  rw [show V1 T 4 = t.2.2.2 by rw [hf1 T (by omega) (by omega)]; exact ht.2.2.2.1]
  refine gX_pI 11 dX11_endReading_18 fdX11_81 fpX11_81 rfl (Or.inl rfl) hO ?_
  refine gX_aloadn dX11_endReading_21 rfl ?_
  refine gX_gR 3 dX11_endReading_22 fdX11_29 rfl rfl hO r3 ?_
  refine gX_gI 3 dX11_endReading_25 fdX11_106 rfl (Or.inl rfl) hTo.1 ?_
  rw [show gup V1 0 11 t.2.2.2 T 3 = t.2.2.1 by rw [gup_ne (by omega), hf1 T (by omega) (by omega)]; exact ht.2.2.1]
  refine gX_iret dX11_endReading_28 (Or.inl rfl) ?_
  exact hQ _ ⟨by rw [gup_ne (by omega), hf1 T (by omega) (by omega)]; exact ht.1, by rw [gup_ne (by omega), hf1 T (by omega) (by omega)]; exact ht.2.1, by rw [gup_ne (by omega), hf1 T (by omega) (by omega)]; exact ht.2.2.1, by rw [gup_ne (by omega), hf1 T (by omega) (by omega)]; exact ht.2.2.2.1, (hx1.kept (gup_ne (by omega)) (gup_ne (by omega)))⟩ gup_s (fun k hk => by rw [show gup V1 0 11 t.2.2.2 0 k = V1 0 k from if_neg (fun z => hk z.2), hf1 0 (by omega) (by omega)]) (fun a g1 g2 g3 => by rw [gup_ne g1, hf1 a g2 (by omega)])
set_option maxRecDepth 4000 in
theorem c_book (hG : gbK K R D T P S' A W L U) (hS : gbIs V S) (hfn : -100 ≤ (bkR S.2.2.1 (V P 2)).1.2.2.1 ∧ (bkR S.2.2.1 (V P 2)).1.2.2.1 ≤ 100) (hQ : ∀ V', gbIs V' (aBook S (V P 2)).2 → gFr V V' 0 775 → Q (some (gi (aBook S (V P 2)).1)) (K, R, V')) : gC l E (d + 6) iX11_book [ga 0] (K, R, V) Q := by
  refine gC_of kX11_book (ls := [some (ga 0), none]) rfl (Nat.le_of_ble_eq_true rfl) ?_
  have hG0 := hG
  obtain ⟨⟨eD, eT, eP, eS, eA, eW, eL, eU⟩, hO, ⟨r0, r1, r2, r3, r4, r5, r6, r7, r8, r9⟩, k1, k2, hDr, hTo, hRe, hSc, hAl, hWt, hTr, hPr, hBk, hHd⟩ := hG
  have hn0 := hS.1
  have hn1 := hS.2.1
  have hy : rIs V (T + 1) 320 S.2.2.1 := by rw [eT]; exact hS.2.2.2.2.2.2
  by_cases hr : S.1.length < 10
  · obtain ⟨B, eB⟩ : ∃ B : Int, B = 39 + 70 * (S.1.length : Int) := ⟨_, rfl⟩
    have hB : bkK K R B := by rw [eB]; exact (hBk _ (by omega) (by omega)).2
    have ht : toIs V T S.2.2.1 (V T 1, V T 2, V T 3, V T 4) := ⟨rfl, rfl, rfl, rfl, hy⟩
    obtain ⟨r, er⟩ : ∃ r, r = bkR S.2.2.1 (V P 2) := ⟨_, rfl⟩
    rw [← er] at hfn
    refine gX_aloadn dX11_book_0 rfl ?_
    refine gX_virt (J := iX11_freshBook) (av := []) (a := 0) (st := []) dX11_book_1 lkX11_95 kX11_freshBook vX11_freshBook (gFit_m (by decide)) hO rfl rfl (Nat.le_of_ble_eq_true rfl) (Nat.zero_le _) (Nat.zero_le _) rfl ?_
    refine c_freshBook hG0 hS hr eB ?_
    show gX l E _ 4 [some (ga 0), none] [ga B] (K, R, V) _ _
    refine gX_astoren dX11_book_4 (show (1 : Nat) < 2 from by decide) (ls2 := [some (ga 0), some (ga B)]) rfl ?_
    refine gX_aloadn dX11_book_5 rfl ?_
    refine gX_ifnonnull (tgt := 13) dX11_book_6 (by decide) (fun w1 => ?_) (fun w1 => absurd (kd_pos hB.1) (by omega))
    refine gX_aloadn dX11_book_13 rfl ?_
    refine gX_gR 4 dX11_book_14 fdX11_36 rfl rfl hO r4 ?_
    refine gX_aloadn dX11_book_17 rfl ?_
    refine gX_gR 3 dX11_book_18 fdX11_29 rfl rfl hO r3 ?_
    refine gX_aloadn dX11_book_21 rfl ?_
    refine gX_virt (J := iX2_readBook) (av := [ga T, ga B]) (a := P) (st := []) dX11_book_22 lkX11_99 kX2_readBook vX2_readBook (gFit_m (by decide)) hRe rfl rfl (Nat.le_of_ble_eq_true rfl) (Nat.zero_le _) (Nat.zero_le _) rfl ?_
    refine c_readBook hRe hTo hB (by omega) (by omega) ht (fun V1 hs1 hf1 => ?_)
    show gX l E _ 25 [some (ga 0), some (ga B)] [] (K, R, V1) _ _
    have hs1e : brIs V1 P T B S.2.2.1 r := by rw [er]; exact hs1
    clear hs1
    have hs1 := hs1e
    refine gX_aloadn dX11_book_25 rfl ?_
    refine gX_virt (J := iX11_endReading) (av := []) (a := 0) (st := []) dX11_book_26 lkX11_103 kX11_endReading vX11_endReading (gFit_m (by decide)) hO rfl rfl (Nat.le_of_ble_eq_true rfl) (Nat.zero_le _) (Nat.zero_le _) rfl ?_
    refine c_endReading hG0 hs1.1 (fun V2 ht2 he2 hz1 hz2 => ?_)
    show gX l E _ 29 [some (ga 0), some (ga B)] [gi r.1.2.2.1] (K, R, V2) _ _
    refine gX_ifeq (tgt := 43) dX11_book_29 (by decide) (fun w2 => ?_) (fun w2 => ?_)
    · refine gX_aloadn dX11_book_43 rfl ?_
      refine gX_dup dX11_book_44 rfl ?_
      refine gX_gI 10 dX11_book_45 fdX11_77 rfl (Or.inl rfl) hO ?_
      rw [show V2 0 10 = (S.1.length : Int) by rw [hz1 10 (by omega), hf1 0 (by omega) (by omega) (by omega)]; exact hS.1]
      refine gX_iconst dX11_book_48 ⟨by decide, by decide⟩ ?_
      refine gX_iadd dX11_book_49 ⟨by omega, by omega⟩ ?_
      refine gX_pI 10 dX11_book_50 fdX11_77 fpX11_77 rfl (Or.inl rfl) hO ?_
      refine gX_aloadn dX11_book_53 rfl ?_
      refine gX_gI 10 dX11_book_54 fdX11_77 rfl (Or.inl rfl) hO ?_
      rw [show gup V2 0 10 (S.1.length + 1) 0 10 = (S.1.length : Int) + 1 from gup_s]
      refine gX_iconst dX11_book_57 ⟨by decide, by decide⟩ ?_
      refine gX_isub dX11_book_58 ⟨by omega, by omega⟩ ?_
      rw [show (S.1.length : Int) + 1 - 1 = S.1.length by omega]
      refine gX_iret dX11_book_59 (Or.inl rfl) ?_
      have ea : aBook S (V P 2) = ((S.1.length : Int), (S.1 ++ [(r.2.1, r.2.2.1, -1, -1, List.replicate 6 0, List.replicate 6 0)], S.2.1, [], r.1.2.2.2)) := by
        unfold aBook
        rw [if_pos hr, ← er, if_pos (by omega)]
      rw [ea] at hQ
      exact hQ _ (hS.push hr eB ⟨hs1.2.1.kept (fun a g1 g2 => by rw [gup_ne (by omega), hz2 a (by omega) (by omega) (by omega)]), hs1.2.2.1.kept (fun a g1 g2 => by rw [gup_ne (by omega), hz2 a (by omega) (by omega) (by omega)])⟩ (fun a g1 g2 => by rw [gup_ne (by omega), hz2 a (by omega) (by omega) (by omega), hf1 a (by omega) (by omega) (by omega)]) (fun a g1 g2 => by rw [gup_ne (by omega), hz2 a (by omega) (by omega) (by omega), hf1 a (by omega) (by omega) (by omega)]) gup_s (by rw [show gup V2 0 10 (S.1.length + 1) 0 11 = V2 0 11 from if_neg (by omega)]; exact he2) (by have z := ht2.2.2.2.2; rw [eT] at z; exact z.kept (gup_ne (by omega)) (gup_ne (by omega)))) (fun a g1 => by rw [gup_ne (by omega), hz2 a (by omega) (by omega) (by omega), hf1 a (by omega) (by omega) (by omega)])
    · refine gX_bipush dX11_book_32 (by decide) ⟨by decide, by decide⟩ ?_
      refine gX_aloadn dX11_book_34 rfl ?_
      refine gX_gR 3 dX11_book_35 fdX11_29 rfl rfl hO r3 ?_
      refine gX_gI 3 dX11_book_38 fdX11_106 rfl (Or.inl rfl) hTo.1 ?_
      rw [ht2.2.2.1]
      refine gX_isub dX11_book_41 ⟨by omega, by omega⟩ ?_
      refine gX_iret dX11_book_42 (Or.inl rfl) ?_
      have ea : aBook S (V P 2) = ((-10) - r.1.2.2.1, (S.1, S.2.1, [], r.1.2.2.2)) := by
        unfold aBook
        rw [if_pos hr, ← er, if_neg (by omega)]
      rw [ea] at hQ
      exact hQ V2 (hS.frB (fun a g1 g2 => by rw [hz2 a (by omega) (by omega) (by omega), hf1 a (by omega) (by omega) (by omega)]) (fun a g1 g2 => by rw [hz2 a (by omega) (by omega) (by omega), hf1 a (by omega) (by omega) (by omega)]) (by rw [hz1 10 (by omega), hf1 0 (by omega) (by omega) (by omega)]; exact hS.1) he2 (by have z := ht2.2.2.2.2; rw [eT] at z; exact z)) (fun a g1 => by rw [hz2 a (by omega) (by omega) (by omega), hf1 a (by omega) (by omega) (by omega)])
  · refine gX_aloadn dX11_book_0 rfl ?_
    refine gX_virt (J := iX11_freshBook) (av := []) (a := 0) (st := []) dX11_book_1 lkX11_95 kX11_freshBook vX11_freshBook (gFit_m (by decide)) hO rfl rfl (Nat.le_of_ble_eq_true rfl) (Nat.zero_le _) (Nat.zero_le _) rfl ?_
    refine c_freshBookN hG0 hS hr ?_
    show gX l E _ 4 [some (ga 0), none] [ga (-1)] (K, R, V) _ _
    refine gX_astoren dX11_book_4 (show (1 : Nat) < 2 from by decide) (ls2 := [some (ga 0), some (ga (-1))]) rfl ?_
    refine gX_aloadn dX11_book_5 rfl ?_
    refine gX_ifnonnull (tgt := 13) dX11_book_6 (by decide) (fun w1 => absurd w1 (by omega)) (fun w1 => ?_)
    refine gX_sipush dX11_book_9 (by decide) ⟨by decide, by decide⟩ ?_
    refine gX_iret dX11_book_12 (Or.inl rfl) ?_
    have ea : aBook S (V P 2) = (-1004, S) := by
      unfold aBook
      rw [if_neg hr]
    rw [ea] at hQ
    exact hQ V hS gFr.rf
set_option maxRecDepth 4000 in
theorem c_hand (hG : gbK K R D T P S' A W L U) (hS : gbIs V S) (hfn : -100 ≤ (hdR S.2.2.1).1.2.2.1 ∧ (hdR S.2.2.1).1.2.2.1 ≤ 100) (hQ : ∀ V', gbIs V' (aHand S h).2 → gFr V V' 0 775 → Q (some (gi (aHand S h).1)) (K, R, V')) : gC l E (d + 10) iX11_hand [ga 0, gi h] (K, R, V) Q := by
  refine gC_of kX11_hand (ls := [some (ga 0), some (gi h), none]) rfl (Nat.le_of_ble_eq_true rfl) ?_
  have hG0 := hG
  obtain ⟨⟨eD, eT, eP, eS, eA, eW, eL, eU⟩, hO, ⟨r0, r1, r2, r3, r4, r5, r6, r7, r8, r9⟩, k1, k2, hDr, hTo, hRe, hSc, hAl, hWt, hTr, hPr, hBk, hHd⟩ := hG
  have hn0 := hS.1
  have hn1 := hS.2.1
  have hy : rIs V (T + 1) 320 S.2.2.1 := by rw [eT]; exact hS.2.2.2.2.2.2
  by_cases hr : 0 ≤ h ∧ h < 4
  · obtain ⟨H, eH⟩ : ∃ H : Int, H = 739 + 9 * h := ⟨_, rfl⟩
    have hH : hdK K R H := by rw [eH]; exact (hHd h (by omega) (by omega)).2
    obtain ⟨hq, ehq⟩ : ∃ hq, hq = ghq S h := ⟨_, rfl⟩
    have hh := hS.hd hr.1 hr.2 eH
    rw [← ehq] at hh
    have ht : toIs V T S.2.2.1 (V T 1, V T 2, V T 3, V T 4) := ⟨rfl, rfl, rfl, rfl, hy⟩
    obtain ⟨r, er⟩ : ∃ r, r = hdR S.2.2.1 := ⟨_, rfl⟩
    rw [← er] at hfn
    refine gX_aloadn dX11_hand_0 rfl ?_
    refine gX_iloadn dX11_hand_1 rfl ?_
    refine gX_virt (J := iX11_handAt) (av := [gi h]) (a := 0) (st := []) dX11_hand_2 lkX11_109 kX11_handAt vX11_handAt (gFit_m (by decide)) hO rfl rfl (Nat.le_of_ble_eq_true rfl) (Nat.zero_le _) (Nat.zero_le _) rfl ?_
    refine c_handAt hG0 hr eH ?_
    show gX l E _ 5 [some (ga 0), some (gi h), none] [ga H] (K, R, V) _ _
    refine gX_astoren dX11_hand_5 (show (2 : Nat) < 3 from by decide) (ls2 := [some (ga 0), some (gi h), some (ga H)]) rfl ?_
    refine gX_aloadn dX11_hand_6 rfl ?_
    refine gX_ifnonnull (tgt := 14) dX11_hand_7 (by decide) (fun w1 => ?_) (fun w1 => absurd (kd_pos hH.1) (by omega))
    refine gX_aloadn dX11_hand_14 rfl ?_
    refine gX_gR 3 dX11_hand_15 fdX11_29 rfl rfl hO r3 ?_
    refine gX_gR 0 dX11_hand_18 fdX11_85 rfl rfl hTo.1 hTo.2.1 ?_
    refine gX_virt (J := iX6_length) (av := []) (a := (T + 1)) (st := []) dX11_hand_21 lkX11_88 kX6_length vX6_length (gFit_m (by decide)) hTo.2.2.1 rfl rfl (Nat.le_of_ble_eq_true rfl) (Nat.zero_le _) (Nat.zero_le _) rfl ?_
    refine q_Row_length hTo.2.2 hy ?_
    show gX l E _ 24 [some (ga 0), some (gi h), some (ga H)] [gi S.2.2.1.length] (K, R, V) _ _
    refine gX_sipush dX11_hand_24 (by decide) ⟨by decide, by decide⟩ ?_
    refine gX_icmple (tgt := 34) dX11_hand_27 (by decide) (fun w2 => ?_) (fun w2 => ?_)
    · refine gX_aloadn dX11_hand_34 rfl ?_
      refine gX_gR 3 dX11_hand_35 fdX11_29 rfl rfl hO r3 ?_
      refine gX_aloadn dX11_hand_38 rfl ?_
      refine gX_gR 2 dX11_hand_39 fdX11_22 rfl rfl hO r2 ?_
      refine gX_stat (J := iX5_readHand) (av := [ga T, ga D]) (st := []) dX11_hand_42 lkX11_113 kX5_readHand sX5_readHand (gFit_m (by decide)) rfl (Nat.le_of_ble_eq_true rfl) (Nat.zero_le _) (Nat.zero_le _) rfl ?_
      refine c_readHand hTo hDr (by omega) ht (fun V1 hs1 hf1 => ?_)
      show gX l E _ 45 [some (ga 0), some (gi h), some (ga H)] [] (K, R, V1) _ _
      have hs1e : hrIs V1 T D S.2.2.1 r := by rw [er]; exact hs1
      clear hs1
      have hs1 := hs1e
      refine gX_aloadn dX11_hand_45 rfl ?_
      refine gX_virt (J := iX11_endReading) (av := []) (a := 0) (st := []) dX11_hand_46 lkX11_103 kX11_endReading vX11_endReading (gFit_m (by decide)) hO rfl rfl (Nat.le_of_ble_eq_true rfl) (Nat.zero_le _) (Nat.zero_le _) rfl ?_
      refine c_endReading hG0 hs1.1 (fun V2 ht2 he2 hz1 hz2 => ?_)
      show gX l E _ 49 [some (ga 0), some (gi h), some (ga H)] [gi r.1.2.2.1] (K, R, V2) _ _
      refine gX_ifeq (tgt := 63) dX11_hand_49 (by decide) (fun w3 => ?_) (fun w3 => ?_)
      · have hd2 : hd1 V2 D r.2 := hd1.kept (V := V1) hs1.2 (fun a g1 g2 => hz2 a (by omega) (by omega) (by omega))
        refine gX_aloadn dX11_hand_63 rfl ?_
        refine gX_aloadn dX11_hand_64 rfl ?_
        refine gX_gR 2 dX11_hand_65 fdX11_22 rfl rfl hO r2 ?_
        refine gX_virt (J := iX4_takeFrom) (av := [ga D]) (a := H) (st := []) dX11_hand_68 lkX11_119 kX4_takeFrom vX4_takeFrom (gFit_m (by decide)) hH.1 rfl rfl (Nat.le_of_ble_eq_true rfl) (Nat.zero_le _) (Nat.zero_le _) rfl ?_
        refine c_hdTake hH hDr (by omega) hd2 (fun V3 hh3 hf3 => ?_)
        show gX l E _ 71 [some (ga 0), some (gi h), some (ga H)] [] (K, R, V3) _ _
        refine gX_aloadn dX11_hand_71 rfl ?_
        refine gX_virt (J := iX4_clauses) (av := []) (a := H) (st := []) dX11_hand_72 lkX11_123 kX4_clauses vX4_clauses (gFit_m (by decide)) hH.1 rfl rfl (Nat.le_of_ble_eq_true rfl) (Nat.zero_le _) (Nat.zero_le _) rfl ?_
        refine c_clauses hH hh3 ?_
        show gX l E _ 75 [some (ga 0), some (gi h), some (ga H)] [gi (clsC r.2.1 r.2.2.2.2.1)] (K, R, V3) _ _
        refine gX_iret dX11_hand_75 (Or.inl rfl) ?_
        have ea : aHand S h = (clsC r.2.1 r.2.2.2.2.1, (S.1, S.2.1.set h.toNat r.2, [], r.1.2.2.2)) := by
          unfold aHand
          rw [if_pos hr, if_neg (by omega), ← er, if_pos (by omega)]
        rw [ea] at hQ
        exact hQ V3 (gbIs.seth (hS.frB (fun a g1 g2 => by rw [hz2 a (by omega) (by omega) (by omega), hf1 a (by omega) (by omega)]) (fun a g1 g2 => by rw [hz2 a (by omega) (by omega) (by omega), hf1 a (by omega) (by omega)]) (by rw [hz1 10 (by omega), hf1 0 (by omega) (by omega)]; exact hS.1) he2 (by have z := ht2.2.2.2.2; rw [eT] at z; exact z)) hr.1 hr.2 eH hh3 (fun a g1 => hf3 a g1)) (fun a g1 => by rw [hf3 a (by omega), hz2 a (by omega) (by omega) (by omega), hf1 a (by omega) (by omega)])
      · refine gX_bipush dX11_hand_52 (by decide) ⟨by decide, by decide⟩ ?_
        refine gX_aloadn dX11_hand_54 rfl ?_
        refine gX_gR 3 dX11_hand_55 fdX11_29 rfl rfl hO r3 ?_
        refine gX_gI 3 dX11_hand_58 fdX11_106 rfl (Or.inl rfl) hTo.1 ?_
        rw [ht2.2.2.1]
        refine gX_isub dX11_hand_61 ⟨by omega, by omega⟩ ?_
        refine gX_iret dX11_hand_62 (Or.inl rfl) ?_
        have ea : aHand S h = ((-10) - r.1.2.2.1, (S.1, S.2.1, [], r.1.2.2.2)) := by
          unfold aHand
          rw [if_pos hr, if_neg (by omega), ← er, if_neg (by omega)]
        rw [ea] at hQ
        exact hQ V2 (hS.frB (fun a g1 g2 => by rw [hz2 a (by omega) (by omega) (by omega), hf1 a (by omega) (by omega)]) (fun a g1 g2 => by rw [hz2 a (by omega) (by omega) (by omega), hf1 a (by omega) (by omega)]) (by rw [hz1 10 (by omega), hf1 0 (by omega) (by omega)]; exact hS.1) he2 (by have z := ht2.2.2.2.2; rw [eT] at z; exact z)) (fun a g1 => by rw [hz2 a (by omega) (by omega) (by omega), hf1 a (by omega) (by omega)])
    · refine gX_sipush dX11_hand_30 (by decide) ⟨by decide, by decide⟩ ?_
      refine gX_iret dX11_hand_33 (Or.inl rfl) ?_
      have ea : aHand S h = (-1002, S) := by
        unfold aHand
        rw [if_pos hr, if_pos (by omega)]
      rw [ea] at hQ
      exact hQ V hS gFr.rf
  · refine gX_aloadn dX11_hand_0 rfl ?_
    refine gX_iloadn dX11_hand_1 rfl ?_
    refine gX_virt (J := iX11_handAt) (av := [gi h]) (a := 0) (st := []) dX11_hand_2 lkX11_109 kX11_handAt vX11_handAt (gFit_m (by decide)) hO rfl rfl (Nat.le_of_ble_eq_true rfl) (Nat.zero_le _) (Nat.zero_le _) rfl ?_
    refine c_handAtN hG0 hr ?_
    show gX l E _ 5 [some (ga 0), some (gi h), none] [ga (-1)] (K, R, V) _ _
    refine gX_astoren dX11_hand_5 (show (2 : Nat) < 3 from by decide) (ls2 := [some (ga 0), some (gi h), some (ga (-1))]) rfl ?_
    refine gX_aloadn dX11_hand_6 rfl ?_
    refine gX_ifnonnull (tgt := 14) dX11_hand_7 (by decide) (fun w1 => absurd w1 (by omega)) (fun w1 => ?_)
    refine gX_sipush dX11_hand_10 (by decide) ⟨by decide, by decide⟩ ?_
    refine gX_iret dX11_hand_13 (Or.inl rfl) ?_
    have ea : aHand S h = (-1001, S) := by
      unfold aHand
      rw [if_neg hr]
    rw [ea] at hQ
    exact hQ V hS gFr.rf
theorem cBd0 : cBd (List.replicate 6 0) 0 := by
  refine ⟨rfl, fun h h0 h1 => ?_⟩
  have : h = 0 ∨ h = 1 ∨ h = 2 ∨ h = 3 ∨ h = 4 ∨ h = 5 := by omega
  rcases this with e | e | e | e | e | e <;> subst e <;> exact ⟨by decide, by decide⟩
set_option maxRecDepth 4000 in
theorem c_copy (hG : gbK K R D T P S' A W L U) (hS : gbIs V S) (h0 : (0 ≤ b ∧ b < S.1.length) → (0 ≤ h ∧ h < 4) → (∀ q ∈ (gbq S b).2.1, q.2.2.2.2.2.length ≤ 8) ∧ (-1 ≤ (ghq S h).2.2.2.2.1 ∧ (ghq S h).2.2.2.2.1 ≤ 100) ∧ (lat (ghq S h).2.2.2.1 3 ≠ -1 → 0 ≤ (ghq S h).2.2.2.2.2 ∧ (ghq S h).2.2.2.2.2 ≤ 2) ∧ wfS ((gbq S b).1, (gbq S b).2.1, List.replicate 6 0, List.replicate 6 0)) (hQ : ∀ V', gbIs V' (aCopy S b h).2 → gFr V V' 0 775 → Q (some (gi (aCopy S b h).1)) (K, R, V')) : gC l E (d + 7) iX11_copy [ga 0, gi b, gi h] (K, R, V) Q := by
  refine gC_of kX11_copy (ls := [some (ga 0), some (gi b), some (gi h), none, none, none]) rfl (Nat.le_of_ble_eq_true rfl) ?_
  have hG0 := hG
  obtain ⟨⟨eD, eT, eP, eS, eA, eW, eL, eU⟩, hO, ⟨r0, r1, r2, r3, r4, r5, r6, r7, r8, r9⟩, k1, k2, hDr, hTo, hRe, hSc, hAl, hWt, hTr, hPr, hBk, hHd⟩ := hG
  have hn0 := hS.1
  have hn1 := hS.2.1
  by_cases hr1 : 0 ≤ b ∧ b < S.1.length
  · obtain ⟨B, eB⟩ : ∃ B : Int, B = 39 + 70 * b := ⟨_, rfl⟩
    have hB : bkK K R B := by rw [eB]; exact (hBk b (by omega) (by omega)).2
    obtain ⟨q, eq⟩ : ∃ q, q = gbq S b := ⟨_, rfl⟩
    obtain ⟨hb, hm⟩ := hS.bk hr1.1 hr1.2 eB
    rw [← eq] at hb hm
    by_cases hr : 0 ≤ h ∧ h < 4
    · obtain ⟨H, eH⟩ : ∃ H : Int, H = 739 + 9 * h := ⟨_, rfl⟩
      have hH : hdK K R H := by rw [eH]; exact (hHd h (by omega) (by omega)).2
      obtain ⟨hq, ehq⟩ : ∃ hq, hq = ghq S h := ⟨_, rfl⟩
      have hh := hS.hd hr.1 hr.2 eH
      rw [← ehq] at hh
      have h1 := h0 hr1 hr
      rw [← eq, ← ehq] at h1
      by_cases hl : S.1.length < 10
      · obtain ⟨F, eF⟩ : ∃ F : Int, F = 39 + 70 * (S.1.length : Int) := ⟨_, rfl⟩
        have hF : bkK K R F := by rw [eF]; exact (hBk _ (by omega) (by omega)).2
        refine gX_aloadn dX11_copy_0 rfl ?_
        refine gX_iloadn dX11_copy_1 rfl ?_
        refine gX_virt (J := iX11_bookAt) (av := [gi b]) (a := 0) (st := []) dX11_copy_2 lkX11_142 kX11_bookAt vX11_bookAt (gFit_m (by decide)) hO rfl rfl (Nat.le_of_ble_eq_true rfl) (Nat.zero_le _) (Nat.zero_le _) rfl ?_
        refine c_bookAt hG0 hS hr1 eB ?_
        show gX l E _ 5 [some (ga 0), some (gi b), some (gi h), none, none, none] [ga B] (K, R, V) _ _
        refine gX_astoren dX11_copy_5 (show (3 : Nat) < 6 from by decide) (ls2 := [some (ga 0), some (gi b), some (gi h), some (ga B), none, none]) rfl ?_
        refine gX_aloadn dX11_copy_6 rfl ?_
        refine gX_iloadn dX11_copy_7 rfl ?_
        refine gX_virt (J := iX11_handAt) (av := [gi h]) (a := 0) (st := []) dX11_copy_8 lkX11_109 kX11_handAt vX11_handAt (gFit_m (by decide)) hO rfl rfl (Nat.le_of_ble_eq_true rfl) (Nat.zero_le _) (Nat.zero_le _) rfl ?_
        refine c_handAt hG0 hr eH ?_
        show gX l E _ 11 [some (ga 0), some (gi b), some (gi h), some (ga B), none, none] [ga H] (K, R, V) _ _
        refine gX_astore dX11_copy_11 (show (4 : Nat) < 6 from by decide) (ls2 := [some (ga 0), some (gi b), some (gi h), some (ga B), some (ga H), none]) rfl ?_
        refine gX_aloadn dX11_copy_13 rfl ?_
        refine gX_ifnull (tgt := 22) dX11_copy_14 (by decide) (fun w1 => absurd (kd_pos hB.1) (by omega)) (fun w1 => ?_)
        refine gX_aload dX11_copy_17 rfl ?_
        refine gX_ifnonnull (tgt := 26) dX11_copy_19 (by decide) (fun w2 => ?_) (fun w2 => absurd (kd_pos hH.1) (by omega))
        refine gX_aloadn dX11_copy_26 rfl ?_
        refine gX_virt (J := iX11_freshBook) (av := []) (a := 0) (st := []) dX11_copy_27 lkX11_95 kX11_freshBook vX11_freshBook (gFit_m (by decide)) hO rfl rfl (Nat.le_of_ble_eq_true rfl) (Nat.zero_le _) (Nat.zero_le _) rfl ?_
        refine c_freshBook hG0 hS hl eF ?_
        show gX l E _ 30 [some (ga 0), some (gi b), some (gi h), some (ga B), some (ga H), none] [ga F] (K, R, V) _ _
        refine gX_astore dX11_copy_30 (show (5 : Nat) < 6 from by decide) (ls2 := [some (ga 0), some (gi b), some (gi h), some (ga B), some (ga H), some (ga F)]) rfl ?_
        refine gX_aload dX11_copy_32 rfl ?_
        refine gX_ifnonnull (tgt := 41) dX11_copy_34 (by decide) (fun w3 => ?_) (fun w3 => absurd (kd_pos hF.1) (by omega))
        refine gX_aload dX11_copy_41 rfl ?_
        refine gX_aloadn dX11_copy_43 rfl ?_
        refine gX_virt (J := iX1_takeFrom) (av := [ga B]) (a := F) (st := []) dX11_copy_44 lkX11_146 kX1_takeFrom vX1_takeFrom (gFit_m (by decide)) hF.1 rfl rfl (Nat.le_of_ble_eq_true rfl) (Nat.zero_le _) (Nat.zero_le _) rfl ?_
        refine c_bkTake hF hB hb (by omega) (fun V1 hb1 hm1 hf1 => ?_)
        show gX l E _ 47 [some (ga 0), some (gi b), some (gi h), some (ga B), some (ga H), some (ga F)] [] (K, R, V1) _ _
        refine gX_aload dX11_copy_47 rfl ?_
        refine gX_iloadn dX11_copy_49 rfl ?_
        refine gX_pI 6 dX11_copy_50 fdX11_149 fpX11_149 rfl (Or.inl rfl) hF.1 ?_
        refine gX_aload dX11_copy_53 rfl ?_
        refine gX_iloadn dX11_copy_55 rfl ?_
        refine gX_pI 7 dX11_copy_56 fdX11_152 fpX11_152 rfl (Or.inl rfl) hF.1 ?_
        obtain ⟨e, ee⟩ : ∃ e, e = cpE q hq := ⟨_, rfl⟩
        have hs2 : fbIs (gup (gup V1 F 6 b) F 7 h) F b h (q.1, q.2.1, List.replicate 6 0, List.replicate 6 0) := ⟨hb1.keep2 (by rw [show gup (gup V1 F 6 b) F 7 h F 5 = gup V1 F 6 b F 5 from if_neg (by omega), show gup V1 F 6 b F 5 = V1 F 5 from if_neg (by omega)]) (by rw [gup_ne (by omega), gup_ne (by omega)]) (by rw [gup_ne (by omega), gup_ne (by omega)]) (fun a g1 g2 => by rw [gup_ne (by omega), gup_ne (by omega)]), ⟨by rw [show gup (gup V1 F 6 b) F 7 h F 6 = gup V1 F 6 b F 6 from if_neg (by omega)]; exact gup_s, gup_s, (hm1.2.2.1.kept (gup_ne (by omega)) (gup_ne (by omega))).kept (gup_ne (by omega)) (gup_ne (by omega)), (hm1.2.2.2.kept (gup_ne (by omega)) (gup_ne (by omega))).kept (gup_ne (by omega)) (gup_ne (by omega))⟩⟩
        have hh2 : hd1 (gup (gup V1 F 6 b) F 7 h) H hq := hh.kept (fun a g1 g2 => by rw [gup_ne (by omega), gup_ne (by omega), hf1 a (by omega)])
        have hc0 : cBd (List.replicate 6 0) 0 := cBd0
        refine gX_aloadn dX11_copy_59 rfl ?_
        refine gX_gR 5 dX11_copy_60 fdX11_43 rfl rfl hO r5 ?_
        refine gX_aload dX11_copy_63 rfl ?_
        refine gX_aload dX11_copy_65 rfl ?_
        refine gX_virt (J := iX7_write) (av := [ga F, ga H]) (a := S') (st := []) dX11_copy_67 lkX11_154 kX7_write vX7_write (gFit_m (by decide)) hSc.1 rfl rfl (Nat.le_of_ble_eq_true rfl) (Nat.zero_le _) (Nat.zero_le _) rfl ?_
        refine c_write hSc hF hH (by omega) (by omega) (by omega) hs2 hh2 (h1.2.2.2) h1.1 hc0 hc0 h1.2.1 h1.2.2.1 (fun V3 hs3 hf3 => ?_)
        show gX l E _ 70 [some (ga 0), some (gi b), some (gi h), some (ga B), some (ga H), some (ga F)] [] (K, R, V3) _ _
        have hs3e : fbIs V3 F b h e := by rw [ee]; exact hs3
        clear hs3
        have hs3 := hs3e
        refine gX_aloadn dX11_copy_70 rfl ?_
        refine gX_dup dX11_copy_71 rfl ?_
        refine gX_gI 10 dX11_copy_72 fdX11_77 rfl (Or.inl rfl) hO ?_
        rw [show V3 0 10 = (S.1.length : Int) by rw [hf3 0 (by omega) (by omega) (by omega), gup_ne (by omega), gup_ne (by omega), hf1 0 (by omega)]; exact hS.1]
        refine gX_iconst dX11_copy_75 ⟨by decide, by decide⟩ ?_
        refine gX_iadd dX11_copy_76 ⟨by omega, by omega⟩ ?_
        refine gX_pI 10 dX11_copy_77 fdX11_77 fpX11_77 rfl (Or.inl rfl) hO ?_
        refine gX_aloadn dX11_copy_80 rfl ?_
        refine gX_gI 10 dX11_copy_81 fdX11_77 rfl (Or.inl rfl) hO ?_
        rw [show gup V3 0 10 (S.1.length + 1) 0 10 = (S.1.length : Int) + 1 from gup_s]
        refine gX_iconst dX11_copy_84 ⟨by decide, by decide⟩ ?_
        refine gX_isub dX11_copy_85 ⟨by omega, by omega⟩ ?_
        rw [show (S.1.length : Int) + 1 - 1 = S.1.length by omega]
        refine gX_iret dX11_copy_86 (Or.inl rfl) ?_
        have ea : aCopy S b h = ((S.1.length : Int), (S.1 ++ [(e.1, e.2.1, b, h, e.2.2.1, e.2.2.2)], S.2)) := by
          unfold aCopy
          rw [if_pos ⟨hr1, hr⟩, if_pos hl, ← eq, ← ehq, ← ee]
        rw [ea] at hQ
        exact hQ _ (hS.push (ys := S.2.2.1) (fa := S.2.2.2) hl eF (q := (e.1, e.2.1, b, h, e.2.2.1, e.2.2.2)) (bk1.kept (V := V3) ⟨hs3.1, hs3.2⟩ (fun a g1 g2 => by rw [gup_ne (by omega)])) (fun a g1 g2 => by rw [gup_ne (by omega), hf3 a (by omega) (by omega) (by omega), gup_ne (by omega), gup_ne (by omega), hf1 a (by omega)]) (fun a g1 g2 => by rw [gup_ne (by omega), hf3 a (by omega) (by omega) (by omega), gup_ne (by omega), gup_ne (by omega), hf1 a (by omega)]) gup_s (by rw [show gup V3 0 10 (S.1.length + 1) 0 11 = V3 0 11 from if_neg (by omega), hf3 0 (by omega) (by omega) (by omega), gup_ne (by omega), gup_ne (by omega), hf1 0 (by omega)]; exact hS.2.2.1) (hS.2.2.2.2.2.2.kept (by rw [gup_ne (by omega), hf3 13 (by omega) (by omega) (by omega), gup_ne (by omega), gup_ne (by omega), hf1 13 (by omega)]) (by rw [gup_ne (by omega), hf3 _ (by omega) (by omega) (by omega), gup_ne (by omega), gup_ne (by omega), hf1 _ (by omega)]))) (fun a g1 => by rw [gup_ne (by omega), hf3 a (by omega) (by omega) (by omega), gup_ne (by omega), gup_ne (by omega), hf1 a (by omega)])
      · refine gX_aloadn dX11_copy_0 rfl ?_
        refine gX_iloadn dX11_copy_1 rfl ?_
        refine gX_virt (J := iX11_bookAt) (av := [gi b]) (a := 0) (st := []) dX11_copy_2 lkX11_142 kX11_bookAt vX11_bookAt (gFit_m (by decide)) hO rfl rfl (Nat.le_of_ble_eq_true rfl) (Nat.zero_le _) (Nat.zero_le _) rfl ?_
        refine c_bookAt hG0 hS hr1 eB ?_
        show gX l E _ 5 [some (ga 0), some (gi b), some (gi h), none, none, none] [ga B] (K, R, V) _ _
        refine gX_astoren dX11_copy_5 (show (3 : Nat) < 6 from by decide) (ls2 := [some (ga 0), some (gi b), some (gi h), some (ga B), none, none]) rfl ?_
        refine gX_aloadn dX11_copy_6 rfl ?_
        refine gX_iloadn dX11_copy_7 rfl ?_
        refine gX_virt (J := iX11_handAt) (av := [gi h]) (a := 0) (st := []) dX11_copy_8 lkX11_109 kX11_handAt vX11_handAt (gFit_m (by decide)) hO rfl rfl (Nat.le_of_ble_eq_true rfl) (Nat.zero_le _) (Nat.zero_le _) rfl ?_
        refine c_handAt hG0 hr eH ?_
        show gX l E _ 11 [some (ga 0), some (gi b), some (gi h), some (ga B), none, none] [ga H] (K, R, V) _ _
        refine gX_astore dX11_copy_11 (show (4 : Nat) < 6 from by decide) (ls2 := [some (ga 0), some (gi b), some (gi h), some (ga B), some (ga H), none]) rfl ?_
        refine gX_aloadn dX11_copy_13 rfl ?_
        refine gX_ifnull (tgt := 22) dX11_copy_14 (by decide) (fun w1 => absurd (kd_pos hB.1) (by omega)) (fun w1 => ?_)
        refine gX_aload dX11_copy_17 rfl ?_
        refine gX_ifnonnull (tgt := 26) dX11_copy_19 (by decide) (fun w2 => ?_) (fun w2 => absurd (kd_pos hH.1) (by omega))
        refine gX_aloadn dX11_copy_26 rfl ?_
        refine gX_virt (J := iX11_freshBook) (av := []) (a := 0) (st := []) dX11_copy_27 lkX11_95 kX11_freshBook vX11_freshBook (gFit_m (by decide)) hO rfl rfl (Nat.le_of_ble_eq_true rfl) (Nat.zero_le _) (Nat.zero_le _) rfl ?_
        refine c_freshBookN hG0 hS hl ?_
        show gX l E _ 30 [some (ga 0), some (gi b), some (gi h), some (ga B), some (ga H), none] [ga (-1)] (K, R, V) _ _
        refine gX_astore dX11_copy_30 (show (5 : Nat) < 6 from by decide) (ls2 := [some (ga 0), some (gi b), some (gi h), some (ga B), some (ga H), some (ga (-1))]) rfl ?_
        refine gX_aload dX11_copy_32 rfl ?_
        refine gX_ifnonnull (tgt := 41) dX11_copy_34 (by decide) (fun w3 => absurd w3 (by omega)) (fun w3 => ?_)
        refine gX_sipush dX11_copy_37 (by decide) ⟨by decide, by decide⟩ ?_
        refine gX_iret dX11_copy_40 (Or.inl rfl) ?_
        have ea : aCopy S b h = (-1004, S) := by
          unfold aCopy
          rw [if_pos ⟨hr1, hr⟩, if_neg hl]
        rw [ea] at hQ
        exact hQ V hS gFr.rf
    · refine gX_aloadn dX11_copy_0 rfl ?_
      refine gX_iloadn dX11_copy_1 rfl ?_
      refine gX_virt (J := iX11_bookAt) (av := [gi b]) (a := 0) (st := []) dX11_copy_2 lkX11_142 kX11_bookAt vX11_bookAt (gFit_m (by decide)) hO rfl rfl (Nat.le_of_ble_eq_true rfl) (Nat.zero_le _) (Nat.zero_le _) rfl ?_
      refine c_bookAt hG0 hS hr1 eB ?_
      show gX l E _ 5 [some (ga 0), some (gi b), some (gi h), none, none, none] [ga B] (K, R, V) _ _
      refine gX_astoren dX11_copy_5 (show (3 : Nat) < 6 from by decide) (ls2 := [some (ga 0), some (gi b), some (gi h), some (ga B), none, none]) rfl ?_
      refine gX_aloadn dX11_copy_6 rfl ?_
      refine gX_iloadn dX11_copy_7 rfl ?_
      refine gX_virt (J := iX11_handAt) (av := [gi h]) (a := 0) (st := []) dX11_copy_8 lkX11_109 kX11_handAt vX11_handAt (gFit_m (by decide)) hO rfl rfl (Nat.le_of_ble_eq_true rfl) (Nat.zero_le _) (Nat.zero_le _) rfl ?_
      refine c_handAtN hG0 hr ?_
      show gX l E _ 11 [some (ga 0), some (gi b), some (gi h), some (ga B), none, none] [ga (-1)] (K, R, V) _ _
      refine gX_astore dX11_copy_11 (show (4 : Nat) < 6 from by decide) (ls2 := [some (ga 0), some (gi b), some (gi h), some (ga B), some (ga (-1)), none]) rfl ?_
      refine gX_aloadn dX11_copy_13 rfl ?_
      refine gX_ifnull (tgt := 22) dX11_copy_14 (by decide) (fun w1 => absurd (kd_pos hB.1) (by omega)) (fun w1 => ?_)
      refine gX_aload dX11_copy_17 rfl ?_
      refine gX_ifnonnull (tgt := 26) dX11_copy_19 (by decide) (fun w2 => absurd w2 (by omega)) (fun w2 => ?_)
      refine gX_sipush dX11_copy_22 (by decide) ⟨by decide, by decide⟩ ?_
      refine gX_iret dX11_copy_25 (Or.inl rfl) ?_
      have ea : aCopy S b h = (-1001, S) := by
        unfold aCopy
        rw [if_neg (by omega)]
      rw [ea] at hQ
      exact hQ V hS gFr.rf
  · by_cases hr : 0 ≤ h ∧ h < 4
    · obtain ⟨H, eH⟩ : ∃ H : Int, H = 739 + 9 * h := ⟨_, rfl⟩
      have hH : hdK K R H := by rw [eH]; exact (hHd h (by omega) (by omega)).2
      obtain ⟨hq, ehq⟩ : ∃ hq, hq = ghq S h := ⟨_, rfl⟩
      have hh := hS.hd hr.1 hr.2 eH
      rw [← ehq] at hh
      refine gX_aloadn dX11_copy_0 rfl ?_
      refine gX_iloadn dX11_copy_1 rfl ?_
      refine gX_virt (J := iX11_bookAt) (av := [gi b]) (a := 0) (st := []) dX11_copy_2 lkX11_142 kX11_bookAt vX11_bookAt (gFit_m (by decide)) hO rfl rfl (Nat.le_of_ble_eq_true rfl) (Nat.zero_le _) (Nat.zero_le _) rfl ?_
      refine c_bookAtN hG0 hS hr1 ?_
      show gX l E _ 5 [some (ga 0), some (gi b), some (gi h), none, none, none] [ga (-1)] (K, R, V) _ _
      refine gX_astoren dX11_copy_5 (show (3 : Nat) < 6 from by decide) (ls2 := [some (ga 0), some (gi b), some (gi h), some (ga (-1)), none, none]) rfl ?_
      refine gX_aloadn dX11_copy_6 rfl ?_
      refine gX_iloadn dX11_copy_7 rfl ?_
      refine gX_virt (J := iX11_handAt) (av := [gi h]) (a := 0) (st := []) dX11_copy_8 lkX11_109 kX11_handAt vX11_handAt (gFit_m (by decide)) hO rfl rfl (Nat.le_of_ble_eq_true rfl) (Nat.zero_le _) (Nat.zero_le _) rfl ?_
      refine c_handAt hG0 hr eH ?_
      show gX l E _ 11 [some (ga 0), some (gi b), some (gi h), some (ga (-1)), none, none] [ga H] (K, R, V) _ _
      refine gX_astore dX11_copy_11 (show (4 : Nat) < 6 from by decide) (ls2 := [some (ga 0), some (gi b), some (gi h), some (ga (-1)), some (ga H), none]) rfl ?_
      refine gX_aloadn dX11_copy_13 rfl ?_
      refine gX_ifnull (tgt := 22) dX11_copy_14 (by decide) (fun w1 => ?_) (fun w1 => absurd w1 (by omega))
      refine gX_sipush dX11_copy_22 (by decide) ⟨by decide, by decide⟩ ?_
      refine gX_iret dX11_copy_25 (Or.inl rfl) ?_
      have ea : aCopy S b h = (-1001, S) := by
        unfold aCopy
        rw [if_neg (by omega)]
      rw [ea] at hQ
      exact hQ V hS gFr.rf
    · refine gX_aloadn dX11_copy_0 rfl ?_
      refine gX_iloadn dX11_copy_1 rfl ?_
      refine gX_virt (J := iX11_bookAt) (av := [gi b]) (a := 0) (st := []) dX11_copy_2 lkX11_142 kX11_bookAt vX11_bookAt (gFit_m (by decide)) hO rfl rfl (Nat.le_of_ble_eq_true rfl) (Nat.zero_le _) (Nat.zero_le _) rfl ?_
      refine c_bookAtN hG0 hS hr1 ?_
      show gX l E _ 5 [some (ga 0), some (gi b), some (gi h), none, none, none] [ga (-1)] (K, R, V) _ _
      refine gX_astoren dX11_copy_5 (show (3 : Nat) < 6 from by decide) (ls2 := [some (ga 0), some (gi b), some (gi h), some (ga (-1)), none, none]) rfl ?_
      refine gX_aloadn dX11_copy_6 rfl ?_
      refine gX_iloadn dX11_copy_7 rfl ?_
      refine gX_virt (J := iX11_handAt) (av := [gi h]) (a := 0) (st := []) dX11_copy_8 lkX11_109 kX11_handAt vX11_handAt (gFit_m (by decide)) hO rfl rfl (Nat.le_of_ble_eq_true rfl) (Nat.zero_le _) (Nat.zero_le _) rfl ?_
      refine c_handAtN hG0 hr ?_
      show gX l E _ 11 [some (ga 0), some (gi b), some (gi h), some (ga (-1)), none, none] [ga (-1)] (K, R, V) _ _
      refine gX_astore dX11_copy_11 (show (4 : Nat) < 6 from by decide) (ls2 := [some (ga 0), some (gi b), some (gi h), some (ga (-1)), some (ga (-1)), none]) rfl ?_
      refine gX_aloadn dX11_copy_13 rfl ?_
      refine gX_ifnull (tgt := 22) dX11_copy_14 (by decide) (fun w1 => ?_) (fun w1 => absurd w1 (by omega))
      refine gX_sipush dX11_copy_22 (by decide) ⟨by decide, by decide⟩ ?_
      refine gX_iret dX11_copy_25 (Or.inl rfl) ?_
      have ea : aCopy S b h = (-1001, S) := by
        unfold aCopy
        rw [if_neg (by omega)]
      rw [ea] at hQ
      exact hQ V hS gFr.rf
set_option maxRecDepth 4000 in
theorem c_amend (hG : gbK K R D T P S' A W L U) (hS : gbIs V S) (hQ : ∀ V', gbIs V' (aAmend S b i w).2 → gFr V V' 0 775 → Q (some (gi (aAmend S b i w).1)) (K, R, V')) : gC l E (d + 2) iX11_amend [ga 0, gi b, gi i, gi w] (K, R, V) Q := by
  refine gC_of kX11_amend (ls := [some (ga 0), some (gi b), some (gi i), some (gi w), none, none]) rfl (Nat.le_of_ble_eq_true rfl) ?_
  have hG0 := hG
  obtain ⟨⟨eD, eT, eP, eS, eA, eW, eL, eU⟩, hO, ⟨r0, r1, r2, r3, r4, r5, r6, r7, r8, r9⟩, k1, k2, hDr, hTo, hRe, hSc, hAl, hWt, hTr, hPr, hBk, hHd⟩ := hG
  have hn0 := hS.1
  have hn1 := hS.2.1
  by_cases hr : 0 ≤ b ∧ b < S.1.length
  · obtain ⟨B, eB⟩ : ∃ B : Int, B = 39 + 70 * b := ⟨_, rfl⟩
    have hB : bkK K R B := by rw [eB]; exact (hBk b (by omega) (by omega)).2
    obtain ⟨q, eq⟩ : ∃ q, q = gbq S b := ⟨_, rfl⟩
    obtain ⟨hb, hm⟩ := hS.bk hr.1 hr.2 eB
    rw [← eq] at hb hm
    refine gX_aloadn dX11_amend_0 rfl ?_
    refine gX_iloadn dX11_amend_1 rfl ?_
    refine gX_virt (J := iX11_bookAt) (av := [gi b]) (a := 0) (st := []) dX11_amend_2 lkX11_142 kX11_bookAt vX11_bookAt (gFit_m (by decide)) hO rfl rfl (Nat.le_of_ble_eq_true rfl) (Nat.zero_le _) (Nat.zero_le _) rfl ?_
    refine c_bookAt hG0 hS hr eB ?_
    show gX l E _ 5 [some (ga 0), some (gi b), some (gi i), some (gi w), none, none] [ga B] (K, R, V) _ _
    refine gX_astore dX11_amend_5 (show (4 : Nat) < 6 from by decide) (ls2 := [some (ga 0), some (gi b), some (gi i), some (gi w), some (ga B), none]) rfl ?_
    refine gX_aload dX11_amend_7 rfl ?_
    refine gX_ifnonnull (tgt := 16) dX11_amend_9 (by decide) (fun w1 => ?_) (fun w1 => absurd (kd_pos hB.1) (by omega))
    refine gX_aload dX11_amend_16 rfl ?_
    refine gX_gR 0 dX11_amend_18 fdX11_164 rfl rfl hB.1 hB.2.1 ?_
    refine gX_iloadn dX11_amend_21 rfl ?_
    refine gX_virt (J := iX6_has) (av := [gi i]) (a := (B + 1)) (st := []) dX11_amend_22 lkX11_167 kX6_has vX6_has (gFit_m (by decide)) hB.2.2.2.2.2.2.1.1 rfl rfl (Nat.le_of_ble_eq_true rfl) (Nat.zero_le _) (Nat.zero_le _) rfl ?_
    refine q_Row_has hB.2.2.2.2.2.2.1 hb.1 ?_
    show gX l E _ 25 [some (ga 0), some (gi b), some (gi i), some (gi w), some (ga B), none] [gi (lhas q.1 i)] (K, R, V) _ _
    refine gX_ifeq (tgt := 35) dX11_amend_25 (by decide) (fun w2 => ?_) (fun w2 => ?_)
    · refine gX_sipush dX11_amend_35 (by decide) ⟨by decide, by decide⟩ ?_
      refine gX_iret dX11_amend_38 (Or.inl rfl) ?_
      have ea : aAmend S b i w = (-1002, S) := by
        unfold aAmend
        rw [if_pos hr, if_neg (fun z => ?_)]
        rw [← eq] at z
        obtain ⟨z1, z2⟩ := z
        first
          | (have z9 : (if 0 ≤ w ∧ w ≤ 63 then (1 : Int) else 0) = 1 := if_pos z2; omega)
          | (have z9 : lhas q.1 i = 1 := if_pos z1; omega)
      rw [ea] at hQ
      exact hQ V hS gFr.rf
    · refine gX_iloadn dX11_amend_28 rfl ?_
      refine gX_stat (J := iX11_isWord) (av := [gi w]) (st := []) dX11_amend_29 lkX11_171 kX11_isWord sX11_isWord (gFit_m (by decide)) rfl (Nat.le_of_ble_eq_true rfl) (Nat.zero_le _) (Nat.zero_le _) rfl ?_
      refine c_isWord ?_
      show gX l E _ 32 [some (ga 0), some (gi b), some (gi i), some (gi w), some (ga B), none] [gi (if 0 ≤ w ∧ w ≤ 63 then 1 else 0)] (K, R, V) _ _
      refine gX_ifne (tgt := 39) dX11_amend_32 (by decide) (fun w3 => ?_) (fun w3 => ?_)
      · refine gX_aload dX11_amend_39 rfl ?_
        refine gX_gR 0 dX11_amend_41 fdX11_164 rfl rfl hB.1 hB.2.1 ?_
        refine gX_iloadn dX11_amend_44 rfl ?_
        refine gX_virt (J := iX6_at) (av := [gi i]) (a := (B + 1)) (st := []) dX11_amend_45 lkX11_132 kX6_at vX6_at (gFit_m (by decide)) hB.2.2.2.2.2.2.1.1 rfl rfl (Nat.le_of_ble_eq_true rfl) (Nat.zero_le _) (Nat.zero_le _) rfl ?_
        refine q_Row_at hB.2.2.2.2.2.2.1 hb.1 ?_
        show gX l E _ 48 [some (ga 0), some (gi b), some (gi i), some (gi w), some (ga B), none] [gi (lat q.1 i)] (K, R, V) _ _
        refine gX_istore dX11_amend_48 (show (5 : Nat) < 6 from by decide) (ls2 := [some (ga 0), some (gi b), some (gi i), some (gi w), some (ga B), some (gi (lat q.1 i))]) rfl ?_
        refine gX_aload dX11_amend_50 rfl ?_
        refine gX_gR 0 dX11_amend_52 fdX11_164 rfl rfl hB.1 hB.2.1 ?_
        refine gX_iloadn dX11_amend_55 rfl ?_
        refine gX_iloadn dX11_amend_56 rfl ?_
        refine gX_virt (J := iX6_put) (av := [gi i, gi w]) (a := (B + 1)) (st := []) dX11_amend_57 lkX11_174 kX6_put vX6_put (gFit_m (by decide)) hB.2.2.2.2.2.2.1.1 rfl rfl (Nat.le_of_ble_eq_true rfl) (Nat.zero_le _) (Nat.zero_le _) rfl ?_
        refine q_Row_put hB.2.2.2.2.2.2.1 hb.1 (fun V1 hx1 hf1 => ?_)
        show gX l E _ 60 [some (ga 0), some (gi b), some (gi i), some (gi w), some (ga B), some (gi (lat q.1 i))] [] (K, R, V1) _ _
        refine gX_iload dX11_amend_60 rfl ?_
        refine gX_iret dX11_amend_62 (Or.inl rfl) ?_
        have ea : aAmend S b i w = (lat q.1 i, (S.1.set b.toNat (lput q.1 i w, q.2), S.2)) := by
          unfold aAmend
          rw [if_pos hr, ← eq, if_pos ⟨Decidable.byContradiction fun z => by have z9 : lhas q.1 i = 0 := if_neg z; omega, Decidable.byContradiction fun z => by have z9 : (if 0 ≤ w ∧ w ≤ 63 then (1 : Int) else 0) = 0 := if_neg z; omega⟩]
        rw [ea] at hQ
        exact hQ V1 (hS.setb hr.1 hr.2 eB (q := (lput q.1 i w, q.2)) ⟨hb.sett hx1 (fun a g1 g2 g3 g4 => hf1 a g3 (by omega)), ⟨by rw [hf1 B (by omega) (by omega)]; exact hm.1, by rw [hf1 B (by omega) (by omega)]; exact hm.2.1, hm.2.2.1.kept (hf1 _ (by omega) (by omega)) (hf1 _ (by omega) (by omega)), hm.2.2.2.kept (hf1 _ (by omega) (by omega)) (hf1 _ (by omega) (by omega))⟩⟩ (fun a g1 => hf1 a (by omega) (by omega))) (hf1.fr (by omega) (by omega))
      · refine gX_sipush dX11_amend_35 (by decide) ⟨by decide, by decide⟩ ?_
        refine gX_iret dX11_amend_38 (Or.inl rfl) ?_
        have ea : aAmend S b i w = (-1002, S) := by
          unfold aAmend
          rw [if_pos hr, if_neg (fun z => ?_)]
          rw [← eq] at z
          obtain ⟨z1, z2⟩ := z
          first
            | (have z9 : (if 0 ≤ w ∧ w ≤ 63 then (1 : Int) else 0) = 1 := if_pos z2; omega)
            | (have z9 : lhas q.1 i = 1 := if_pos z1; omega)
        rw [ea] at hQ
        exact hQ V hS gFr.rf
  · refine gX_aloadn dX11_amend_0 rfl ?_
    refine gX_iloadn dX11_amend_1 rfl ?_
    refine gX_virt (J := iX11_bookAt) (av := [gi b]) (a := 0) (st := []) dX11_amend_2 lkX11_142 kX11_bookAt vX11_bookAt (gFit_m (by decide)) hO rfl rfl (Nat.le_of_ble_eq_true rfl) (Nat.zero_le _) (Nat.zero_le _) rfl ?_
    refine c_bookAtN hG0 hS hr ?_
    show gX l E _ 5 [some (ga 0), some (gi b), some (gi i), some (gi w), none, none] [ga (-1)] (K, R, V) _ _
    refine gX_astore dX11_amend_5 (show (4 : Nat) < 6 from by decide) (ls2 := [some (ga 0), some (gi b), some (gi i), some (gi w), some (ga (-1)), none]) rfl ?_
    refine gX_aload dX11_amend_7 rfl ?_
    refine gX_ifnonnull (tgt := 16) dX11_amend_9 (by decide) (fun w1 => absurd w1 (by omega)) (fun w1 => ?_)
    refine gX_sipush dX11_amend_12 (by decide) ⟨by decide, by decide⟩ ?_
    refine gX_iret dX11_amend_15 (Or.inl rfl) ?_
    have ea : aAmend S b i w = (-1001, S) := by
      unfold aAmend
      rw [if_neg hr]
    rw [ea] at hQ
    exact hQ V hS gFr.rf
set_option maxRecDepth 4000 in
theorem c_lift (hG : gbK K R D T P S' A W L U) (hS : gbIs V S) (h0 : (0 ≤ b ∧ b < S.1.length) → hoW (gbq S b).2.1) (hQ : ∀ V', gbIs V' (aLift S b g).2 → gFr V V' 0 775 → Q (some (gi (aLift S b g).1)) (K, R, V')) : gC l E (d + 4) iX11_lift [ga 0, gi b, gi g] (K, R, V) Q := by
  refine gC_of kX11_lift (ls := [some (ga 0), some (gi b), some (gi g), none, none]) rfl (Nat.le_of_ble_eq_true rfl) ?_
  have hG0 := hG
  obtain ⟨⟨eD, eT, eP, eS, eA, eW, eL, eU⟩, hO, ⟨r0, r1, r2, r3, r4, r5, r6, r7, r8, r9⟩, k1, k2, hDr, hTo, hRe, hSc, hAl, hWt, hTr, hPr, hBk, hHd⟩ := hG
  have hn0 := hS.1
  have hn1 := hS.2.1
  by_cases hr : 0 ≤ b ∧ b < S.1.length
  · obtain ⟨B, eB⟩ : ∃ B : Int, B = 39 + 70 * b := ⟨_, rfl⟩
    have hB : bkK K R B := by rw [eB]; exact (hBk b (by omega) (by omega)).2
    obtain ⟨q, eq⟩ : ∃ q, q = gbq S b := ⟨_, rfl⟩
    obtain ⟨hb, hm⟩ := hS.bk hr.1 hr.2 eB
    rw [← eq] at hb hm
    have hg20 := hb.2.2.1
    have hw := h0 hr
    rw [← eq] at hw
    by_cases hg : 0 ≤ g ∧ g < q.2.1.length
    · obtain ⟨G, eG⟩ : ∃ G : Int, G = B + 10 + 3 * g := ⟨_, rfl⟩
      have hG1 : glK K R G := by rw [eG]; exact (hB.2.2.2.2.2.2.2.2.2.2.2 g (by omega) (by omega)).2
      refine gX_aloadn dX11_lift_0 rfl ?_
      refine gX_iloadn dX11_lift_1 rfl ?_
      refine gX_virt (J := iX11_bookAt) (av := [gi b]) (a := 0) (st := []) dX11_lift_2 lkX11_142 kX11_bookAt vX11_bookAt (gFit_m (by decide)) hO rfl rfl (Nat.le_of_ble_eq_true rfl) (Nat.zero_le _) (Nat.zero_le _) rfl ?_
      refine c_bookAt hG0 hS hr eB ?_
      show gX l E _ 5 [some (ga 0), some (gi b), some (gi g), none, none] [ga B] (K, R, V) _ _
      refine gX_astoren dX11_lift_5 (show (3 : Nat) < 5 from by decide) (ls2 := [some (ga 0), some (gi b), some (gi g), some (ga B), none]) rfl ?_
      refine gX_aloadn dX11_lift_6 rfl ?_
      refine gX_ifnull (tgt := 18) dX11_lift_7 (by decide) (fun w1 => absurd (kd_pos hB.1) (by omega)) (fun w1 => ?_)
      refine gX_aloadn dX11_lift_10 rfl ?_
      refine gX_iloadn dX11_lift_11 rfl ?_
      refine gX_virt (J := iX1_glossAt) (av := [gi g]) (a := B) (st := []) dX11_lift_12 lkX11_178 kX1_glossAt vX1_glossAt (gFit_m (by decide)) hB.1 rfl rfl (Nat.le_of_ble_eq_true rfl) (Nat.zero_le _) (Nat.zero_le _) rfl ?_
      refine c_glossAtE hB hb hg.1 hg.2 eG ?_
      show gX l E _ 15 [some (ga 0), some (gi b), some (gi g), some (ga B), none] [ga G] (K, R, V) _ _
      refine gX_ifnonnull (tgt := 22) dX11_lift_15 (by decide) (fun w2 => ?_) (fun w2 => absurd (kd_pos hG1.1) (by omega))
      refine gX_aloadn dX11_lift_22 rfl ?_
      refine gX_gI 5 dX11_lift_23 fdX11_182 rfl (Or.inl rfl) hB.1 ?_
      rw [hb.2.1]
      refine gX_istore dX11_lift_26 (show (4 : Nat) < 5 from by decide) (ls2 := [some (ga 0), some (gi b), some (gi g), some (ga B), some (gi (q.2.1.length : Int))]) rfl ?_
      refine gX_aloadn dX11_lift_28 rfl ?_
      refine gX_iloadn dX11_lift_29 rfl ?_
      refine gX_virt (J := iX1_takeAway) (av := [gi g]) (a := B) (st := []) dX11_lift_30 lkX11_185 kX1_takeAway vX1_takeAway (gFit_m (by decide)) hB.1 rfl rfl (Nat.le_of_ble_eq_true rfl) (Nat.zero_le _) (Nat.zero_le _) rfl ?_
      refine c_takeAway hB hb hg.1 hg.2 (fun V1 hb1 hf1 => ?_)
      show gX l E _ 33 [some (ga 0), some (gi b), some (gi g), some (ga B), some (gi (q.2.1.length : Int))] [] (K, R, V1) _ _
      refine gX_aloadn dX11_lift_33 rfl ?_
      refine gX_virt (J := iX1_numberAnew) (av := []) (a := B) (st := []) dX11_lift_34 lkX11_188 kX1_numberAnew vX1_numberAnew (gFit_m (by decide)) hB.1 rfl rfl (Nat.le_of_ble_eq_true rfl) (Nat.zero_le _) (Nat.zero_le _) rfl ?_
      refine c_numberAnew hB hb1 (hw.away hg.1 hg.2) (fun V2 hb2 hf2 hg2 hk2 => ?_)
      show gX l E _ 37 [some (ga 0), some (gi b), some (gi g), some (ga B), some (gi (q.2.1.length : Int))] [] (K, R, V2) _ _
      have hl20 := hb2.2.2.1
      refine gX_iload dX11_lift_37 rfl ?_
      refine gX_aloadn dX11_lift_39 rfl ?_
      refine gX_gI 5 dX11_lift_40 fdX11_182 rfl (Or.inl rfl) hB.1 ?_
      rw [show V2 B 5 = ((lfG q g).length : Int) from hb2.2.1]
      have hl21 : (lfG q g).length ≤ 20 := hb2.2.2.1
      refine gX_isub dX11_lift_43 ⟨by omega, by omega⟩ ?_
      refine gX_iret dX11_lift_44 (Or.inl rfl) ?_
      have ea : aLift S b g = ((q.2.1.length : Int) - ((lfG q g).length : Int), (S.1.set b.toNat (q.1, lfG q g, q.2.2), S.2)) := by
        unfold aLift
        rw [if_pos hr, ← eq, if_pos hg]
      rw [ea] at hQ
      exact hQ V2 (hS.setb hr.1 hr.2 eB (q := (q.1, lfG q g, q.2.2)) ⟨hb2, ⟨by rw [hk2 6 (by omega), hf1 B (by omega)]; exact hm.1, by rw [hk2 7 (by omega), hf1 B (by omega)]; exact hm.2.1, hm.2.2.1.kept (by rw [hg2 _ (by omega) (by omega), hf1 _ (by omega)]) (by rw [hg2 _ (by omega) (by omega), hf1 _ (by omega)]), hm.2.2.2.kept (by rw [hg2 _ (by omega) (by omega), hf1 _ (by omega)]) (by rw [hg2 _ (by omega) (by omega), hf1 _ (by omega)])⟩⟩ (fun a g1 => by rw [hf2 a g1, hf1 a (by omega)])) (fun a g1 => by rw [hf2 a (by omega), hf1 a (by omega)])
    · refine gX_aloadn dX11_lift_0 rfl ?_
      refine gX_iloadn dX11_lift_1 rfl ?_
      refine gX_virt (J := iX11_bookAt) (av := [gi b]) (a := 0) (st := []) dX11_lift_2 lkX11_142 kX11_bookAt vX11_bookAt (gFit_m (by decide)) hO rfl rfl (Nat.le_of_ble_eq_true rfl) (Nat.zero_le _) (Nat.zero_le _) rfl ?_
      refine c_bookAt hG0 hS hr eB ?_
      show gX l E _ 5 [some (ga 0), some (gi b), some (gi g), none, none] [ga B] (K, R, V) _ _
      refine gX_astoren dX11_lift_5 (show (3 : Nat) < 5 from by decide) (ls2 := [some (ga 0), some (gi b), some (gi g), some (ga B), none]) rfl ?_
      refine gX_aloadn dX11_lift_6 rfl ?_
      refine gX_ifnull (tgt := 18) dX11_lift_7 (by decide) (fun w1 => absurd (kd_pos hB.1) (by omega)) (fun w1 => ?_)
      refine gX_aloadn dX11_lift_10 rfl ?_
      refine gX_iloadn dX11_lift_11 rfl ?_
      refine gX_virt (J := iX1_glossAt) (av := [gi g]) (a := B) (st := []) dX11_lift_12 lkX11_178 kX1_glossAt vX1_glossAt (gFit_m (by decide)) hB.1 rfl rfl (Nat.le_of_ble_eq_true rfl) (Nat.zero_le _) (Nat.zero_le _) rfl ?_
      refine c_glossAtN hB hb hg ?_
      show gX l E _ 15 [some (ga 0), some (gi b), some (gi g), some (ga B), none] [ga (-1)] (K, R, V) _ _
      refine gX_ifnonnull (tgt := 22) dX11_lift_15 (by decide) (fun w2 => absurd w2 (by omega)) (fun w2 => ?_)
      refine gX_sipush dX11_lift_18 (by decide) ⟨by decide, by decide⟩ ?_
      refine gX_iret dX11_lift_21 (Or.inl rfl) ?_
      have ea : aLift S b g = (-1001, S) := by
        unfold aLift
        rw [if_pos hr, ← eq, if_neg hg]
      rw [ea] at hQ
      exact hQ V hS gFr.rf
  · refine gX_aloadn dX11_lift_0 rfl ?_
    refine gX_iloadn dX11_lift_1 rfl ?_
    refine gX_virt (J := iX11_bookAt) (av := [gi b]) (a := 0) (st := []) dX11_lift_2 lkX11_142 kX11_bookAt vX11_bookAt (gFit_m (by decide)) hO rfl rfl (Nat.le_of_ble_eq_true rfl) (Nat.zero_le _) (Nat.zero_le _) rfl ?_
    refine c_bookAtN hG0 hS hr ?_
    show gX l E _ 5 [some (ga 0), some (gi b), some (gi g), none, none] [ga (-1)] (K, R, V) _ _
    refine gX_astoren dX11_lift_5 (show (3 : Nat) < 5 from by decide) (ls2 := [some (ga 0), some (gi b), some (gi g), some (ga (-1)), none]) rfl ?_
    refine gX_aloadn dX11_lift_6 rfl ?_
    refine gX_ifnull (tgt := 18) dX11_lift_7 (by decide) (fun w1 => ?_) (fun w1 => absurd w1 (by omega))
    refine gX_sipush dX11_lift_18 (by decide) ⟨by decide, by decide⟩ ?_
    refine gX_iret dX11_lift_21 (Or.inl rfl) ?_
    have ea : aLift S b g = (-1001, S) := by
      unfold aLift
      rw [if_neg hr]
    rw [ea] at hQ
    exact hQ V hS gFr.rf
end GB2
