/-! GlossedBooks: books beside one another, witnesses, trees. Written by wip/whole/tools/mk_gb3.py. -/
def gbX (S : gbS) (b : Int) : List Int := (gbq S b).1
def aDist (S : gbS) (a b : Int) : Int := if (0 ≤ a ∧ a < S.1.length) ∧ (0 ≤ b ∧ b < S.1.length) then ed (gbX S a) (gbX S b) else -1001
def aBeside (S : gbS) (a b i : Int) : Int := if (0 ≤ a ∧ a < S.1.length) ∧ (0 ≤ b ∧ b < S.1.length) then (if 0 ≤ i ∧ i < (gbX S a).length then lat (alg (gbX S a) (gbX S b) 0) i else -1002) else -1001
def aRead (S : gbS) (a b i : Int) : Int := if (0 ≤ a ∧ a < S.1.length) ∧ (0 ≤ b ∧ b < S.1.length) then (if 0 ≤ i ∧ i < (gbX S a).length then lat (gbX S b) (lat (alg (gbX S a) (gbX S b) 0) i) else -1002) else -1001
/-- those of gs that slipped; so tells which words of ys are put in -/
def slpF (gs : List gG) (pa ys so : List Int) : Nat → Int → Int → Int
  | 0, _, x => x
  | j + 1, g, x => slpF gs pa ys so j (g + 1) (if onT (gq gs g) = 1 ∧ hsl pa ys so (gq gs g) = true then gor x (gshl 1 g) else x)
def isS (n : Nat) (se : Int) : Bool := decide (gushr se n = 0)
def hwI (tb pa : List Int) (b : Int) : Nat → Int → List Int → List Int
  | 0, _, rd => rd
  | j + 1, i, rd => hwI tb pa b j (i + 1) (lput rd (b * 40 + i) (lat tb (lat pa i)))
def hwF (S : gbS) (ba se : Int) : Nat → Int → List Int → List Int
  | 0, _, rd => rd
  | j + 1, b, rd => hwF S ba se j (b + 1) (if b = ba ∨ inB se b = true then hwI (gbX S b) (alg (gbX S ba) (gbX S b) 0) b (gbX S ba).length 0 rd else rd)
def hwR (S : gbS) (ba se : Int) : List Int := hwF S ba se S.1.length 0 (List.replicate 400 (-1))
def aMost (S : gbS) (ba se i w : Int) : Int := if (0 ≤ ba ∧ ba < S.1.length) ∧ isS S.1.length se = true then (if (0 ≤ i ∧ i < (gbX S ba).length) ∧ (0 ≤ w ∧ w ≤ 1) then (if w = 0 then moA (hwR S ba se) ba se i else vts (hwR S ba se) ba se i (moA (hwR S ba se) ba se i)) else -1002) else -1001
def lni (xs : List Int) (i : Int) : Int := if i = -1 then (xs.length : Int) else lat xs i
def resL (S : gbS) (ba se : Int) : List Int := rsF (hwR S ba se) ba se (gbX S ba).length 0 []
def grpL (S : gbS) (ba se : Int) : List Int := fgF (hwR S ba se) ba se (gbX S ba).length 0 []
def aRest (S : gbS) (ba se i : Int) : Int := if (0 ≤ ba ∧ ba < S.1.length) ∧ isS S.1.length se = true then lni (resL S ba se) i else -1001
def aGroup (S : gbS) (ba se i : Int) : Int := if (0 ≤ ba ∧ ba < S.1.length) ∧ isS S.1.length se = true then lni (grpL S ba se) i else -1001
def aClash (S : gbS) (ba se : Int) : Int := if (0 ≤ ba ∧ ba < S.1.length) ∧ isS S.1.length se = true then cpF (grpL S ba se) (grpL S ba se).length 0 0 else -1001
def aSound (S : gbS) (ba se i : Int) : Int := if (0 ≤ ba ∧ ba < S.1.length) ∧ isS S.1.length se = true then lni (sdF (grpL S ba se) (grpL S ba se).length 0 []) i else -1001
def gtI (S : gbS) (se a : Int) : Nat → Int → List Int → List Int
  | 0, _, ds => ds
  | j + 1, b, ds => gtI S se a j (b + 1) (if inB se a = true ∧ inB se b = true then lput (lput ds (a * 10 + b) (ed (gbX S a) (gbX S b))) (b * 10 + a) (ed (gbX S a) (gbX S b)) else ds)
def gtF (S : gbS) (se : Int) : Nat → Int → List Int → List Int
  | 0, _, ds => ds
  | j + 1, a, ds => gtF S se j (a + 1) (gtI S se a a.toNat 0 ds)
def gtD (S : gbS) (se : Int) : List Int := gtF S se S.1.length 0 (List.replicate 100 0)
def gtT (S : gbS) (ro se : Int) : List Int × Int := grF (gtD S se) se 10 (gshl 1 ro) (List.replicate 10 (-1), 0)
def asF (S : gbS) (pa : List Int) (ro se : Int) : Nat → Int → Int → Int
  | 0, _, n => n
  | j + 1, b, n => asF S pa ro se j (b + 1) (if b ≠ ro ∧ inB se b = true ∧ lat pa b ≠ (gbq S b).2.2.1 then n + 1 else n)
def aParent (S : gbS) (ro se b : Int) : Int := if isS S.1.length se = true ∧ inB se ro = true ∧ inB se b = true then lat (gtT S ro se).1 b else -1001
def aTree (S : gbS) (ro se w : Int) : Int := if isS S.1.length se = true ∧ inB se ro = true then (if 0 ≤ w ∧ w ≤ 1 then (if w = 0 then (gtT S ro se).2 else asF S (gtT S ro se).1 ro se S.1.length 0 0) else -1002) else -1001
section GB3
variable {l : Launch} {E : gE} {d : Nat} {K : List gK} {R V : Int → Int → Int} {D T P S' A W L U a b i w ba se ro : Int} {Q : gQ} {S : gbS}
set_option maxRecDepth 4000 in
theorem c_distance (hG : gbK K R D T P S' A W L U) (hS : gbIs V S) (hQ : ∀ V', gbIs V' S → gFr V V' 0 775 → Q (some (gi (aDist S a b))) (K, R, V')) : gC l E (d + 5) iX11_distance [ga 0, gi a, gi b] (K, R, V) Q := by
  refine gC_of kX11_distance (ls := [some (ga 0), some (gi a), some (gi b), none, none]) rfl (Nat.le_of_ble_eq_true rfl) ?_
  have hG0 := hG
  obtain ⟨⟨eD, eT, eP, eS, eA, eW, eL, eU⟩, hO, ⟨r0, r1, r2, r3, r4, r5, r6, r7, r8, r9⟩, k1, k2, hDr, hTo, hRe, hSc, hAl, hWt, hTr, hPr, hBk, hHd⟩ := hG
  have hn0 := hS.1
  have hn1 := hS.2.1
  by_cases hr1 : 0 ≤ a ∧ a < S.1.length
  · obtain ⟨B, eB⟩ : ∃ B : Int, B = 39 + 70 * a := ⟨_, rfl⟩
    have hB : bkK K R B := by rw [eB]; exact (hBk a (by omega) (by omega)).2
    obtain ⟨q1, eq1⟩ : ∃ q1, q1 = gbq S a := ⟨_, rfl⟩
    obtain ⟨hb1, hm1⟩ := hS.bk hr1.1 hr1.2 eB
    rw [← eq1] at hb1 hm1
    by_cases hr2 : 0 ≤ b ∧ b < S.1.length
    · obtain ⟨C, eC⟩ : ∃ C : Int, C = 39 + 70 * b := ⟨_, rfl⟩
      have hC : bkK K R C := by rw [eC]; exact (hBk b (by omega) (by omega)).2
      obtain ⟨q2, eq2⟩ : ∃ q2, q2 = gbq S b := ⟨_, rfl⟩
      obtain ⟨hb2, hm2⟩ := hS.bk hr2.1 hr2.2 eC
      rw [← eq2] at hb2 hm2
      have ex1 : gbX S a = q1.1 := by unfold gbX; rw [eq1]
      have ex2 : gbX S b = q2.1 := by unfold gbX; rw [eq2]
      refine gX_aloadn dX11_distance_0 rfl ?_
      refine gX_iloadn dX11_distance_1 rfl ?_
      refine gX_virt (J := iX11_bookAt) (av := [gi a]) (a := 0) (st := []) dX11_distance_2 lkX11_142 kX11_bookAt vX11_bookAt (gFit_m (by decide)) hO rfl rfl (Nat.le_of_ble_eq_true rfl) (Nat.zero_le _) (Nat.zero_le _) rfl ?_
      refine c_bookAt hG0 hS hr1 eB ?_
      show gX l E _ 5 [some (ga 0), some (gi a), some (gi b), none, none] [ga B] (K, R, V) _ _
      refine gX_astoren dX11_distance_5 (show (3 : Nat) < 5 from by decide) (ls2 := [some (ga 0), some (gi a), some (gi b), some (ga B), none]) rfl ?_
      refine gX_aloadn dX11_distance_6 rfl ?_
      refine gX_iloadn dX11_distance_7 rfl ?_
      refine gX_virt (J := iX11_bookAt) (av := [gi b]) (a := 0) (st := []) dX11_distance_8 lkX11_142 kX11_bookAt vX11_bookAt (gFit_m (by decide)) hO rfl rfl (Nat.le_of_ble_eq_true rfl) (Nat.zero_le _) (Nat.zero_le _) rfl ?_
      refine c_bookAt hG0 hS hr2 eC ?_
      show gX l E _ 11 [some (ga 0), some (gi a), some (gi b), some (ga B), none] [ga C] (K, R, V) _ _
      refine gX_astore dX11_distance_11 (show (4 : Nat) < 5 from by decide) (ls2 := [some (ga 0), some (gi a), some (gi b), some (ga B), some (ga C)]) rfl ?_
      refine gX_aloadn dX11_distance_13 rfl ?_
      refine gX_ifnull (tgt := 22) dX11_distance_14 (by decide) (fun w1 => absurd (kd_pos hB.1) (by omega)) (fun w1 => ?_)
      refine gX_aload dX11_distance_17 rfl ?_
      refine gX_ifnonnull (tgt := 26) dX11_distance_19 (by decide) (fun w2 => ?_) (fun w2 => absurd (kd_pos hC.1) (by omega))
      refine gX_aloadn dX11_distance_26 rfl ?_
      refine gX_gR 6 dX11_distance_27 fdX11_50 rfl rfl hO r6 ?_
      refine gX_aloadn dX11_distance_30 rfl ?_
      refine gX_gR 0 dX11_distance_31 fdX11_164 rfl rfl hB.1 hB.2.1 ?_
      refine gX_aload dX11_distance_34 rfl ?_
      refine gX_gR 0 dX11_distance_36 fdX11_164 rfl rfl hC.1 hC.2.1 ?_
      refine gX_virt (J := iX0_leastCost) (av := [ga (B + 1), ga (C + 1)]) (a := A) (st := []) dX11_distance_39 lkX11_233 kX0_leastCost vX0_leastCost (gFit_m (by decide)) hAl.1 rfl rfl (Nat.le_of_ble_eq_true rfl) (Nat.zero_le _) (Nat.zero_le _) rfl ?_
      refine c_leastCost hAl hB.2.2.2.2.2.2.1 hC.2.2.2.2.2.2.1 hb1.1 hb2.1 (by omega) (by omega) (fun V1 hf1 => ?_)
      show gX l E _ 42 [some (ga 0), some (gi a), some (gi b), some (ga B), some (ga C)] [gi (ed q1.1 q2.1)] (K, R, V1) _ _
      refine gX_iret dX11_distance_42 (Or.inl rfl) ?_
      have ea : aDist S a b = ed q1.1 q2.1 := by
        unfold aDist
        rw [if_pos ⟨hr1, hr2⟩, ex1, ex2]
      rw [ea] at hQ
      exact hQ V1 (hS.look (hf1.wide (by omega) (by omega))) (hf1.wide (by omega) (by omega))
    · refine gX_aloadn dX11_distance_0 rfl ?_
      refine gX_iloadn dX11_distance_1 rfl ?_
      refine gX_virt (J := iX11_bookAt) (av := [gi a]) (a := 0) (st := []) dX11_distance_2 lkX11_142 kX11_bookAt vX11_bookAt (gFit_m (by decide)) hO rfl rfl (Nat.le_of_ble_eq_true rfl) (Nat.zero_le _) (Nat.zero_le _) rfl ?_
      refine c_bookAt hG0 hS hr1 eB ?_
      show gX l E _ 5 [some (ga 0), some (gi a), some (gi b), none, none] [ga B] (K, R, V) _ _
      refine gX_astoren dX11_distance_5 (show (3 : Nat) < 5 from by decide) (ls2 := [some (ga 0), some (gi a), some (gi b), some (ga B), none]) rfl ?_
      refine gX_aloadn dX11_distance_6 rfl ?_
      refine gX_iloadn dX11_distance_7 rfl ?_
      refine gX_virt (J := iX11_bookAt) (av := [gi b]) (a := 0) (st := []) dX11_distance_8 lkX11_142 kX11_bookAt vX11_bookAt (gFit_m (by decide)) hO rfl rfl (Nat.le_of_ble_eq_true rfl) (Nat.zero_le _) (Nat.zero_le _) rfl ?_
      refine c_bookAtN hG0 hS hr2 ?_
      show gX l E _ 11 [some (ga 0), some (gi a), some (gi b), some (ga B), none] [ga (-1)] (K, R, V) _ _
      refine gX_astore dX11_distance_11 (show (4 : Nat) < 5 from by decide) (ls2 := [some (ga 0), some (gi a), some (gi b), some (ga B), some (ga (-1))]) rfl ?_
      refine gX_aloadn dX11_distance_13 rfl ?_
      refine gX_ifnull (tgt := 22) dX11_distance_14 (by decide) (fun w1 => absurd (kd_pos hB.1) (by omega)) (fun w1 => ?_)
      refine gX_aload dX11_distance_17 rfl ?_
      refine gX_ifnonnull (tgt := 26) dX11_distance_19 (by decide) (fun w2 => absurd w2 (by omega)) (fun w2 => ?_)
      refine gX_sipush dX11_distance_22 (by decide) ⟨by decide, by decide⟩ ?_
      refine gX_iret dX11_distance_25 (Or.inl rfl) ?_
      have ea : aDist S a b = -1001 := by
        unfold aDist
        rw [if_neg (by omega)]
      rw [ea] at hQ
      exact hQ V hS gFr.rf
  · by_cases hr2 : 0 ≤ b ∧ b < S.1.length
    · obtain ⟨C, eC⟩ : ∃ C : Int, C = 39 + 70 * b := ⟨_, rfl⟩
      have hC : bkK K R C := by rw [eC]; exact (hBk b (by omega) (by omega)).2
      obtain ⟨q2, eq2⟩ : ∃ q2, q2 = gbq S b := ⟨_, rfl⟩
      obtain ⟨hb2, hm2⟩ := hS.bk hr2.1 hr2.2 eC
      rw [← eq2] at hb2 hm2
      refine gX_aloadn dX11_distance_0 rfl ?_
      refine gX_iloadn dX11_distance_1 rfl ?_
      refine gX_virt (J := iX11_bookAt) (av := [gi a]) (a := 0) (st := []) dX11_distance_2 lkX11_142 kX11_bookAt vX11_bookAt (gFit_m (by decide)) hO rfl rfl (Nat.le_of_ble_eq_true rfl) (Nat.zero_le _) (Nat.zero_le _) rfl ?_
      refine c_bookAtN hG0 hS hr1 ?_
      show gX l E _ 5 [some (ga 0), some (gi a), some (gi b), none, none] [ga (-1)] (K, R, V) _ _
      refine gX_astoren dX11_distance_5 (show (3 : Nat) < 5 from by decide) (ls2 := [some (ga 0), some (gi a), some (gi b), some (ga (-1)), none]) rfl ?_
      refine gX_aloadn dX11_distance_6 rfl ?_
      refine gX_iloadn dX11_distance_7 rfl ?_
      refine gX_virt (J := iX11_bookAt) (av := [gi b]) (a := 0) (st := []) dX11_distance_8 lkX11_142 kX11_bookAt vX11_bookAt (gFit_m (by decide)) hO rfl rfl (Nat.le_of_ble_eq_true rfl) (Nat.zero_le _) (Nat.zero_le _) rfl ?_
      refine c_bookAt hG0 hS hr2 eC ?_
      show gX l E _ 11 [some (ga 0), some (gi a), some (gi b), some (ga (-1)), none] [ga C] (K, R, V) _ _
      refine gX_astore dX11_distance_11 (show (4 : Nat) < 5 from by decide) (ls2 := [some (ga 0), some (gi a), some (gi b), some (ga (-1)), some (ga C)]) rfl ?_
      refine gX_aloadn dX11_distance_13 rfl ?_
      refine gX_ifnull (tgt := 22) dX11_distance_14 (by decide) (fun w1 => ?_) (fun w1 => absurd w1 (by omega))
      refine gX_sipush dX11_distance_22 (by decide) ⟨by decide, by decide⟩ ?_
      refine gX_iret dX11_distance_25 (Or.inl rfl) ?_
      have ea : aDist S a b = -1001 := by
        unfold aDist
        rw [if_neg (by omega)]
      rw [ea] at hQ
      exact hQ V hS gFr.rf
    · refine gX_aloadn dX11_distance_0 rfl ?_
      refine gX_iloadn dX11_distance_1 rfl ?_
      refine gX_virt (J := iX11_bookAt) (av := [gi a]) (a := 0) (st := []) dX11_distance_2 lkX11_142 kX11_bookAt vX11_bookAt (gFit_m (by decide)) hO rfl rfl (Nat.le_of_ble_eq_true rfl) (Nat.zero_le _) (Nat.zero_le _) rfl ?_
      refine c_bookAtN hG0 hS hr1 ?_
      show gX l E _ 5 [some (ga 0), some (gi a), some (gi b), none, none] [ga (-1)] (K, R, V) _ _
      refine gX_astoren dX11_distance_5 (show (3 : Nat) < 5 from by decide) (ls2 := [some (ga 0), some (gi a), some (gi b), some (ga (-1)), none]) rfl ?_
      refine gX_aloadn dX11_distance_6 rfl ?_
      refine gX_iloadn dX11_distance_7 rfl ?_
      refine gX_virt (J := iX11_bookAt) (av := [gi b]) (a := 0) (st := []) dX11_distance_8 lkX11_142 kX11_bookAt vX11_bookAt (gFit_m (by decide)) hO rfl rfl (Nat.le_of_ble_eq_true rfl) (Nat.zero_le _) (Nat.zero_le _) rfl ?_
      refine c_bookAtN hG0 hS hr2 ?_
      show gX l E _ 11 [some (ga 0), some (gi a), some (gi b), some (ga (-1)), none] [ga (-1)] (K, R, V) _ _
      refine gX_astore dX11_distance_11 (show (4 : Nat) < 5 from by decide) (ls2 := [some (ga 0), some (gi a), some (gi b), some (ga (-1)), some (ga (-1))]) rfl ?_
      refine gX_aloadn dX11_distance_13 rfl ?_
      refine gX_ifnull (tgt := 22) dX11_distance_14 (by decide) (fun w1 => ?_) (fun w1 => absurd w1 (by omega))
      refine gX_sipush dX11_distance_22 (by decide) ⟨by decide, by decide⟩ ?_
      refine gX_iret dX11_distance_25 (Or.inl rfl) ?_
      have ea : aDist S a b = -1001 := by
        unfold aDist
        rw [if_neg (by omega)]
      rw [ea] at hQ
      exact hQ V hS gFr.rf
set_option maxRecDepth 4000 in
theorem c_beside (hG : gbK K R D T P S' A W L U) (hS : gbIs V S) (hQ : ∀ V', gbIs V' S → gFr V V' 0 775 → Q (some (gi (aBeside S a b i))) (K, R, V')) : gC l E (d + 5) iX11_beside [ga 0, gi a, gi b, gi i] (K, R, V) Q := by
  refine gC_of kX11_beside (ls := [some (ga 0), some (gi a), some (gi b), some (gi i), none, none]) rfl (Nat.le_of_ble_eq_true rfl) ?_
  have hG0 := hG
  obtain ⟨⟨eD, eT, eP, eS, eA, eW, eL, eU⟩, hO, ⟨r0, r1, r2, r3, r4, r5, r6, r7, r8, r9⟩, k1, k2, hDr, hTo, hRe, hSc, hAl, hWt, hTr, hPr, hBk, hHd⟩ := hG
  have hn0 := hS.1
  have hn1 := hS.2.1
  by_cases hr1 : 0 ≤ a ∧ a < S.1.length
  · obtain ⟨B, eB⟩ : ∃ B : Int, B = 39 + 70 * a := ⟨_, rfl⟩
    have hB : bkK K R B := by rw [eB]; exact (hBk a (by omega) (by omega)).2
    obtain ⟨q1, eq1⟩ : ∃ q1, q1 = gbq S a := ⟨_, rfl⟩
    obtain ⟨hb1, hm1⟩ := hS.bk hr1.1 hr1.2 eB
    rw [← eq1] at hb1 hm1
    by_cases hr2 : 0 ≤ b ∧ b < S.1.length
    · obtain ⟨C, eC⟩ : ∃ C : Int, C = 39 + 70 * b := ⟨_, rfl⟩
      have hC : bkK K R C := by rw [eC]; exact (hBk b (by omega) (by omega)).2
      obtain ⟨q2, eq2⟩ : ∃ q2, q2 = gbq S b := ⟨_, rfl⟩
      obtain ⟨hb2, hm2⟩ := hS.bk hr2.1 hr2.2 eC
      rw [← eq2] at hb2 hm2
      have ex1 : gbX S a = q1.1 := by unfold gbX; rw [eq1]
      have ex2 : gbX S b = q2.1 := by unfold gbX; rw [eq2]
      refine gX_aloadn dX11_beside_0 rfl ?_
      refine gX_iloadn dX11_beside_1 rfl ?_
      refine gX_virt (J := iX11_bookAt) (av := [gi a]) (a := 0) (st := []) dX11_beside_2 lkX11_142 kX11_bookAt vX11_bookAt (gFit_m (by decide)) hO rfl rfl (Nat.le_of_ble_eq_true rfl) (Nat.zero_le _) (Nat.zero_le _) rfl ?_
      refine c_bookAt hG0 hS hr1 eB ?_
      show gX l E _ 5 [some (ga 0), some (gi a), some (gi b), some (gi i), none, none] [ga B] (K, R, V) _ _
      refine gX_astore dX11_beside_5 (show (4 : Nat) < 6 from by decide) (ls2 := [some (ga 0), some (gi a), some (gi b), some (gi i), some (ga B), none]) rfl ?_
      refine gX_aloadn dX11_beside_7 rfl ?_
      refine gX_iloadn dX11_beside_8 rfl ?_
      refine gX_virt (J := iX11_bookAt) (av := [gi b]) (a := 0) (st := []) dX11_beside_9 lkX11_142 kX11_bookAt vX11_bookAt (gFit_m (by decide)) hO rfl rfl (Nat.le_of_ble_eq_true rfl) (Nat.zero_le _) (Nat.zero_le _) rfl ?_
      refine c_bookAt hG0 hS hr2 eC ?_
      show gX l E _ 12 [some (ga 0), some (gi a), some (gi b), some (gi i), some (ga B), none] [ga C] (K, R, V) _ _
      refine gX_astore dX11_beside_12 (show (5 : Nat) < 6 from by decide) (ls2 := [some (ga 0), some (gi a), some (gi b), some (gi i), some (ga B), some (ga C)]) rfl ?_
      refine gX_aload dX11_beside_14 rfl ?_
      refine gX_ifnull (tgt := 24) dX11_beside_16 (by decide) (fun w1 => absurd (kd_pos hB.1) (by omega)) (fun w1 => ?_)
      refine gX_aload dX11_beside_19 rfl ?_
      refine gX_ifnonnull (tgt := 28) dX11_beside_21 (by decide) (fun w2 => ?_) (fun w2 => absurd (kd_pos hC.1) (by omega))
      refine gX_aload dX11_beside_28 rfl ?_
      refine gX_gR 0 dX11_beside_30 fdX11_164 rfl rfl hB.1 hB.2.1 ?_
      refine gX_iloadn dX11_beside_33 rfl ?_
      refine gX_virt (J := iX6_has) (av := [gi i]) (a := (B + 1)) (st := []) dX11_beside_34 lkX11_167 kX6_has vX6_has (gFit_m (by decide)) hB.2.2.2.2.2.2.1.1 rfl rfl (Nat.le_of_ble_eq_true rfl) (Nat.zero_le _) (Nat.zero_le _) rfl ?_
      refine q_Row_has hB.2.2.2.2.2.2.1 hb1.1 ?_
      show gX l E _ 37 [some (ga 0), some (gi a), some (gi b), some (gi i), some (ga B), some (ga C)] [gi (lhas q1.1 i)] (K, R, V) _ _
      refine gX_ifne (tgt := 44) dX11_beside_37 (by decide) (fun w3 => ?_) (fun w3 => ?_)
      · refine gX_aloadn dX11_beside_44 rfl ?_
        refine gX_gR 6 dX11_beside_45 fdX11_50 rfl rfl hO r6 ?_
        refine gX_aload dX11_beside_48 rfl ?_
        refine gX_gR 0 dX11_beside_50 fdX11_164 rfl rfl hB.1 hB.2.1 ?_
        refine gX_aload dX11_beside_53 rfl ?_
        refine gX_gR 0 dX11_beside_55 fdX11_164 rfl rfl hC.1 hC.2.1 ?_
        refine gX_virt (J := iX0_lay) (av := [ga (B + 1), ga (C + 1)]) (a := A) (st := []) dX11_beside_58 lkX11_237 kX0_lay vX0_lay (gFit_m (by decide)) hAl.1 rfl rfl (Nat.le_of_ble_eq_true rfl) (Nat.zero_le _) (Nat.zero_le _) rfl ?_
        refine c_lay hAl hB.2.2.2.2.2.2.1 hC.2.2.2.2.2.2.1 hb1.1 hb2.1 (by omega) (by omega) (fun V1 So hp1 hs1 hz1 hf1 => ?_)
        show gX l E _ 61 [some (ga 0), some (gi a), some (gi b), some (gi i), some (ga B), some (ga C)] [] (K, R, V1) _ _
        refine gX_aloadn dX11_beside_61 rfl ?_
        refine gX_gR 6 dX11_beside_62 fdX11_50 rfl rfl hO r6 ?_
        refine gX_gR 1 dX11_beside_65 fdX11_241 rfl rfl hAl.1 hAl.2.2.2.1 ?_
        refine gX_iloadn dX11_beside_68 rfl ?_
        refine gX_virt (J := iX6_at) (av := [gi i]) (a := (A + 2)) (st := []) dX11_beside_69 lkX11_132 kX6_at vX6_at (gFit_m (by decide)) hAl.2.2.2.2.2.1.1 rfl rfl (Nat.le_of_ble_eq_true rfl) (Nat.zero_le _) (Nat.zero_le _) rfl ?_
        refine q_Row_at hAl.2.2.2.2.2.1 hp1 ?_
        show gX l E _ 72 [some (ga 0), some (gi a), some (gi b), some (gi i), some (ga B), some (ga C)] [gi (lat (alg q1.1 q2.1 0) i)] (K, R, V1) _ _
        refine gX_iret dX11_beside_72 (Or.inl rfl) ?_
        have ea : aBeside S a b i = lat (alg q1.1 q2.1 0) i := by
          unfold aBeside
          rw [if_pos ⟨hr1, hr2⟩, ex1, ex2, if_pos (Decidable.byContradiction fun z => by have z9 : lhas q1.1 i = 0 := if_neg z; omega)]
        rw [ea] at hQ
        exact hQ V1 (hS.look (hf1.wide (by omega) (by omega))) (hf1.wide (by omega) (by omega))
      · refine gX_sipush dX11_beside_40 (by decide) ⟨by decide, by decide⟩ ?_
        refine gX_iret dX11_beside_43 (Or.inl rfl) ?_
        have ea : aBeside S a b i = -1002 := by
          unfold aBeside
          rw [if_pos ⟨hr1, hr2⟩, ex1, ex2, if_neg (fun z => by have z9 : lhas q1.1 i = 1 := if_pos z; omega)]
        rw [ea] at hQ
        exact hQ V hS gFr.rf
    · refine gX_aloadn dX11_beside_0 rfl ?_
      refine gX_iloadn dX11_beside_1 rfl ?_
      refine gX_virt (J := iX11_bookAt) (av := [gi a]) (a := 0) (st := []) dX11_beside_2 lkX11_142 kX11_bookAt vX11_bookAt (gFit_m (by decide)) hO rfl rfl (Nat.le_of_ble_eq_true rfl) (Nat.zero_le _) (Nat.zero_le _) rfl ?_
      refine c_bookAt hG0 hS hr1 eB ?_
      show gX l E _ 5 [some (ga 0), some (gi a), some (gi b), some (gi i), none, none] [ga B] (K, R, V) _ _
      refine gX_astore dX11_beside_5 (show (4 : Nat) < 6 from by decide) (ls2 := [some (ga 0), some (gi a), some (gi b), some (gi i), some (ga B), none]) rfl ?_
      refine gX_aloadn dX11_beside_7 rfl ?_
      refine gX_iloadn dX11_beside_8 rfl ?_
      refine gX_virt (J := iX11_bookAt) (av := [gi b]) (a := 0) (st := []) dX11_beside_9 lkX11_142 kX11_bookAt vX11_bookAt (gFit_m (by decide)) hO rfl rfl (Nat.le_of_ble_eq_true rfl) (Nat.zero_le _) (Nat.zero_le _) rfl ?_
      refine c_bookAtN hG0 hS hr2 ?_
      show gX l E _ 12 [some (ga 0), some (gi a), some (gi b), some (gi i), some (ga B), none] [ga (-1)] (K, R, V) _ _
      refine gX_astore dX11_beside_12 (show (5 : Nat) < 6 from by decide) (ls2 := [some (ga 0), some (gi a), some (gi b), some (gi i), some (ga B), some (ga (-1))]) rfl ?_
      refine gX_aload dX11_beside_14 rfl ?_
      refine gX_ifnull (tgt := 24) dX11_beside_16 (by decide) (fun w1 => absurd (kd_pos hB.1) (by omega)) (fun w1 => ?_)
      refine gX_aload dX11_beside_19 rfl ?_
      refine gX_ifnonnull (tgt := 28) dX11_beside_21 (by decide) (fun w2 => absurd w2 (by omega)) (fun w2 => ?_)
      refine gX_sipush dX11_beside_24 (by decide) ⟨by decide, by decide⟩ ?_
      refine gX_iret dX11_beside_27 (Or.inl rfl) ?_
      have ea : aBeside S a b i = -1001 := by
        unfold aBeside
        rw [if_neg (by omega)]
      rw [ea] at hQ
      exact hQ V hS gFr.rf
  · by_cases hr2 : 0 ≤ b ∧ b < S.1.length
    · obtain ⟨C, eC⟩ : ∃ C : Int, C = 39 + 70 * b := ⟨_, rfl⟩
      have hC : bkK K R C := by rw [eC]; exact (hBk b (by omega) (by omega)).2
      obtain ⟨q2, eq2⟩ : ∃ q2, q2 = gbq S b := ⟨_, rfl⟩
      obtain ⟨hb2, hm2⟩ := hS.bk hr2.1 hr2.2 eC
      rw [← eq2] at hb2 hm2
      refine gX_aloadn dX11_beside_0 rfl ?_
      refine gX_iloadn dX11_beside_1 rfl ?_
      refine gX_virt (J := iX11_bookAt) (av := [gi a]) (a := 0) (st := []) dX11_beside_2 lkX11_142 kX11_bookAt vX11_bookAt (gFit_m (by decide)) hO rfl rfl (Nat.le_of_ble_eq_true rfl) (Nat.zero_le _) (Nat.zero_le _) rfl ?_
      refine c_bookAtN hG0 hS hr1 ?_
      show gX l E _ 5 [some (ga 0), some (gi a), some (gi b), some (gi i), none, none] [ga (-1)] (K, R, V) _ _
      refine gX_astore dX11_beside_5 (show (4 : Nat) < 6 from by decide) (ls2 := [some (ga 0), some (gi a), some (gi b), some (gi i), some (ga (-1)), none]) rfl ?_
      refine gX_aloadn dX11_beside_7 rfl ?_
      refine gX_iloadn dX11_beside_8 rfl ?_
      refine gX_virt (J := iX11_bookAt) (av := [gi b]) (a := 0) (st := []) dX11_beside_9 lkX11_142 kX11_bookAt vX11_bookAt (gFit_m (by decide)) hO rfl rfl (Nat.le_of_ble_eq_true rfl) (Nat.zero_le _) (Nat.zero_le _) rfl ?_
      refine c_bookAt hG0 hS hr2 eC ?_
      show gX l E _ 12 [some (ga 0), some (gi a), some (gi b), some (gi i), some (ga (-1)), none] [ga C] (K, R, V) _ _
      refine gX_astore dX11_beside_12 (show (5 : Nat) < 6 from by decide) (ls2 := [some (ga 0), some (gi a), some (gi b), some (gi i), some (ga (-1)), some (ga C)]) rfl ?_
      refine gX_aload dX11_beside_14 rfl ?_
      refine gX_ifnull (tgt := 24) dX11_beside_16 (by decide) (fun w1 => ?_) (fun w1 => absurd w1 (by omega))
      refine gX_sipush dX11_beside_24 (by decide) ⟨by decide, by decide⟩ ?_
      refine gX_iret dX11_beside_27 (Or.inl rfl) ?_
      have ea : aBeside S a b i = -1001 := by
        unfold aBeside
        rw [if_neg (by omega)]
      rw [ea] at hQ
      exact hQ V hS gFr.rf
    · refine gX_aloadn dX11_beside_0 rfl ?_
      refine gX_iloadn dX11_beside_1 rfl ?_
      refine gX_virt (J := iX11_bookAt) (av := [gi a]) (a := 0) (st := []) dX11_beside_2 lkX11_142 kX11_bookAt vX11_bookAt (gFit_m (by decide)) hO rfl rfl (Nat.le_of_ble_eq_true rfl) (Nat.zero_le _) (Nat.zero_le _) rfl ?_
      refine c_bookAtN hG0 hS hr1 ?_
      show gX l E _ 5 [some (ga 0), some (gi a), some (gi b), some (gi i), none, none] [ga (-1)] (K, R, V) _ _
      refine gX_astore dX11_beside_5 (show (4 : Nat) < 6 from by decide) (ls2 := [some (ga 0), some (gi a), some (gi b), some (gi i), some (ga (-1)), none]) rfl ?_
      refine gX_aloadn dX11_beside_7 rfl ?_
      refine gX_iloadn dX11_beside_8 rfl ?_
      refine gX_virt (J := iX11_bookAt) (av := [gi b]) (a := 0) (st := []) dX11_beside_9 lkX11_142 kX11_bookAt vX11_bookAt (gFit_m (by decide)) hO rfl rfl (Nat.le_of_ble_eq_true rfl) (Nat.zero_le _) (Nat.zero_le _) rfl ?_
      refine c_bookAtN hG0 hS hr2 ?_
      show gX l E _ 12 [some (ga 0), some (gi a), some (gi b), some (gi i), some (ga (-1)), none] [ga (-1)] (K, R, V) _ _
      refine gX_astore dX11_beside_12 (show (5 : Nat) < 6 from by decide) (ls2 := [some (ga 0), some (gi a), some (gi b), some (gi i), some (ga (-1)), some (ga (-1))]) rfl ?_
      refine gX_aload dX11_beside_14 rfl ?_
      refine gX_ifnull (tgt := 24) dX11_beside_16 (by decide) (fun w1 => ?_) (fun w1 => absurd w1 (by omega))
      refine gX_sipush dX11_beside_24 (by decide) ⟨by decide, by decide⟩ ?_
      refine gX_iret dX11_beside_27 (Or.inl rfl) ?_
      have ea : aBeside S a b i = -1001 := by
        unfold aBeside
        rw [if_neg (by omega)]
      rw [ea] at hQ
      exact hQ V hS gFr.rf
set_option maxRecDepth 4000 in
theorem c_reading (hG : gbK K R D T P S' A W L U) (hS : gbIs V S) (hQ : ∀ V', gbIs V' S → gFr V V' 0 775 → Q (some (gi (aRead S a b i))) (K, R, V')) : gC l E (d + 5) iX11_reading [ga 0, gi a, gi b, gi i] (K, R, V) Q := by
  refine gC_of kX11_reading (ls := [some (ga 0), some (gi a), some (gi b), some (gi i), none, none]) rfl (Nat.le_of_ble_eq_true rfl) ?_
  have hG0 := hG
  obtain ⟨⟨eD, eT, eP, eS, eA, eW, eL, eU⟩, hO, ⟨r0, r1, r2, r3, r4, r5, r6, r7, r8, r9⟩, k1, k2, hDr, hTo, hRe, hSc, hAl, hWt, hTr, hPr, hBk, hHd⟩ := hG
  have hn0 := hS.1
  have hn1 := hS.2.1
  by_cases hr1 : 0 ≤ a ∧ a < S.1.length
  · obtain ⟨B, eB⟩ : ∃ B : Int, B = 39 + 70 * a := ⟨_, rfl⟩
    have hB : bkK K R B := by rw [eB]; exact (hBk a (by omega) (by omega)).2
    obtain ⟨q1, eq1⟩ : ∃ q1, q1 = gbq S a := ⟨_, rfl⟩
    obtain ⟨hb1, hm1⟩ := hS.bk hr1.1 hr1.2 eB
    rw [← eq1] at hb1 hm1
    by_cases hr2 : 0 ≤ b ∧ b < S.1.length
    · obtain ⟨C, eC⟩ : ∃ C : Int, C = 39 + 70 * b := ⟨_, rfl⟩
      have hC : bkK K R C := by rw [eC]; exact (hBk b (by omega) (by omega)).2
      obtain ⟨q2, eq2⟩ : ∃ q2, q2 = gbq S b := ⟨_, rfl⟩
      obtain ⟨hb2, hm2⟩ := hS.bk hr2.1 hr2.2 eC
      rw [← eq2] at hb2 hm2
      have ex1 : gbX S a = q1.1 := by unfold gbX; rw [eq1]
      have ex2 : gbX S b = q2.1 := by unfold gbX; rw [eq2]
      refine gX_aloadn dX11_reading_0 rfl ?_
      refine gX_iloadn dX11_reading_1 rfl ?_
      refine gX_virt (J := iX11_bookAt) (av := [gi a]) (a := 0) (st := []) dX11_reading_2 lkX11_142 kX11_bookAt vX11_bookAt (gFit_m (by decide)) hO rfl rfl (Nat.le_of_ble_eq_true rfl) (Nat.zero_le _) (Nat.zero_le _) rfl ?_
      refine c_bookAt hG0 hS hr1 eB ?_
      show gX l E _ 5 [some (ga 0), some (gi a), some (gi b), some (gi i), none, none] [ga B] (K, R, V) _ _
      refine gX_astore dX11_reading_5 (show (4 : Nat) < 6 from by decide) (ls2 := [some (ga 0), some (gi a), some (gi b), some (gi i), some (ga B), none]) rfl ?_
      refine gX_aloadn dX11_reading_7 rfl ?_
      refine gX_iloadn dX11_reading_8 rfl ?_
      refine gX_virt (J := iX11_bookAt) (av := [gi b]) (a := 0) (st := []) dX11_reading_9 lkX11_142 kX11_bookAt vX11_bookAt (gFit_m (by decide)) hO rfl rfl (Nat.le_of_ble_eq_true rfl) (Nat.zero_le _) (Nat.zero_le _) rfl ?_
      refine c_bookAt hG0 hS hr2 eC ?_
      show gX l E _ 12 [some (ga 0), some (gi a), some (gi b), some (gi i), some (ga B), none] [ga C] (K, R, V) _ _
      refine gX_astore dX11_reading_12 (show (5 : Nat) < 6 from by decide) (ls2 := [some (ga 0), some (gi a), some (gi b), some (gi i), some (ga B), some (ga C)]) rfl ?_
      refine gX_aload dX11_reading_14 rfl ?_
      refine gX_ifnull (tgt := 24) dX11_reading_16 (by decide) (fun w1 => absurd (kd_pos hB.1) (by omega)) (fun w1 => ?_)
      refine gX_aload dX11_reading_19 rfl ?_
      refine gX_ifnonnull (tgt := 28) dX11_reading_21 (by decide) (fun w2 => ?_) (fun w2 => absurd (kd_pos hC.1) (by omega))
      refine gX_aload dX11_reading_28 rfl ?_
      refine gX_gR 0 dX11_reading_30 fdX11_164 rfl rfl hB.1 hB.2.1 ?_
      refine gX_iloadn dX11_reading_33 rfl ?_
      refine gX_virt (J := iX6_has) (av := [gi i]) (a := (B + 1)) (st := []) dX11_reading_34 lkX11_167 kX6_has vX6_has (gFit_m (by decide)) hB.2.2.2.2.2.2.1.1 rfl rfl (Nat.le_of_ble_eq_true rfl) (Nat.zero_le _) (Nat.zero_le _) rfl ?_
      refine q_Row_has hB.2.2.2.2.2.2.1 hb1.1 ?_
      show gX l E _ 37 [some (ga 0), some (gi a), some (gi b), some (gi i), some (ga B), some (ga C)] [gi (lhas q1.1 i)] (K, R, V) _ _
      refine gX_ifne (tgt := 44) dX11_reading_37 (by decide) (fun w3 => ?_) (fun w3 => ?_)
      · refine gX_aloadn dX11_reading_44 rfl ?_
        refine gX_gR 6 dX11_reading_45 fdX11_50 rfl rfl hO r6 ?_
        refine gX_aload dX11_reading_48 rfl ?_
        refine gX_gR 0 dX11_reading_50 fdX11_164 rfl rfl hB.1 hB.2.1 ?_
        refine gX_aload dX11_reading_53 rfl ?_
        refine gX_gR 0 dX11_reading_55 fdX11_164 rfl rfl hC.1 hC.2.1 ?_
        refine gX_virt (J := iX0_lay) (av := [ga (B + 1), ga (C + 1)]) (a := A) (st := []) dX11_reading_58 lkX11_237 kX0_lay vX0_lay (gFit_m (by decide)) hAl.1 rfl rfl (Nat.le_of_ble_eq_true rfl) (Nat.zero_le _) (Nat.zero_le _) rfl ?_
        refine c_lay hAl hB.2.2.2.2.2.2.1 hC.2.2.2.2.2.2.1 hb1.1 hb2.1 (by omega) (by omega) (fun V1 So hp1 hs1 hz1 hf1 => ?_)
        show gX l E _ 61 [some (ga 0), some (gi a), some (gi b), some (gi i), some (ga B), some (ga C)] [] (K, R, V1) _ _
        refine gX_aload dX11_reading_61 rfl ?_
        refine gX_gR 0 dX11_reading_63 fdX11_164 rfl rfl hC.1 hC.2.1 ?_
        refine gX_aloadn dX11_reading_66 rfl ?_
        refine gX_gR 6 dX11_reading_67 fdX11_50 rfl rfl hO r6 ?_
        refine gX_gR 1 dX11_reading_70 fdX11_241 rfl rfl hAl.1 hAl.2.2.2.1 ?_
        refine gX_iloadn dX11_reading_73 rfl ?_
        refine gX_virt (J := iX6_at) (av := [gi i]) (a := (A + 2)) (st := [ga (C + 1)]) dX11_reading_74 lkX11_132 kX6_at vX6_at (gFit_m (by decide)) hAl.2.2.2.2.2.1.1 rfl rfl (Nat.le_of_ble_eq_true rfl) (Nat.zero_le _) (Nat.zero_le _) rfl ?_
        refine q_Row_at hAl.2.2.2.2.2.1 hp1 ?_
        show gX l E _ 77 [some (ga 0), some (gi a), some (gi b), some (gi i), some (ga B), some (ga C)] [gi (lat (alg q1.1 q2.1 0) i), ga (C + 1)] (K, R, V1) _ _
        refine gX_virt (J := iX6_at) (av := [gi (lat (alg q1.1 q2.1 0) i)]) (a := (C + 1)) (st := []) dX11_reading_77 lkX11_132 kX6_at vX6_at (gFit_m (by decide)) hC.2.2.2.2.2.2.1.1 rfl rfl (Nat.le_of_ble_eq_true rfl) (Nat.zero_le _) (Nat.zero_le _) rfl ?_
        refine q_Row_at hC.2.2.2.2.2.2.1 (hb2.1.fr hf1 (by omega)) ?_
        show gX l E _ 80 [some (ga 0), some (gi a), some (gi b), some (gi i), some (ga B), some (ga C)] [gi (lat q2.1 (lat (alg q1.1 q2.1 0) i))] (K, R, V1) _ _
        refine gX_iret dX11_reading_80 (Or.inl rfl) ?_
        have ea : aRead S a b i = lat q2.1 (lat (alg q1.1 q2.1 0) i) := by
          unfold aRead
          rw [if_pos ⟨hr1, hr2⟩, ex1, ex2, if_pos (Decidable.byContradiction fun z => by have z9 : lhas q1.1 i = 0 := if_neg z; omega)]
        rw [ea] at hQ
        exact hQ V1 (hS.look (hf1.wide (by omega) (by omega))) (hf1.wide (by omega) (by omega))
      · refine gX_sipush dX11_reading_40 (by decide) ⟨by decide, by decide⟩ ?_
        refine gX_iret dX11_reading_43 (Or.inl rfl) ?_
        have ea : aRead S a b i = -1002 := by
          unfold aRead
          rw [if_pos ⟨hr1, hr2⟩, ex1, ex2, if_neg (fun z => by have z9 : lhas q1.1 i = 1 := if_pos z; omega)]
        rw [ea] at hQ
        exact hQ V hS gFr.rf
    · refine gX_aloadn dX11_reading_0 rfl ?_
      refine gX_iloadn dX11_reading_1 rfl ?_
      refine gX_virt (J := iX11_bookAt) (av := [gi a]) (a := 0) (st := []) dX11_reading_2 lkX11_142 kX11_bookAt vX11_bookAt (gFit_m (by decide)) hO rfl rfl (Nat.le_of_ble_eq_true rfl) (Nat.zero_le _) (Nat.zero_le _) rfl ?_
      refine c_bookAt hG0 hS hr1 eB ?_
      show gX l E _ 5 [some (ga 0), some (gi a), some (gi b), some (gi i), none, none] [ga B] (K, R, V) _ _
      refine gX_astore dX11_reading_5 (show (4 : Nat) < 6 from by decide) (ls2 := [some (ga 0), some (gi a), some (gi b), some (gi i), some (ga B), none]) rfl ?_
      refine gX_aloadn dX11_reading_7 rfl ?_
      refine gX_iloadn dX11_reading_8 rfl ?_
      refine gX_virt (J := iX11_bookAt) (av := [gi b]) (a := 0) (st := []) dX11_reading_9 lkX11_142 kX11_bookAt vX11_bookAt (gFit_m (by decide)) hO rfl rfl (Nat.le_of_ble_eq_true rfl) (Nat.zero_le _) (Nat.zero_le _) rfl ?_
      refine c_bookAtN hG0 hS hr2 ?_
      show gX l E _ 12 [some (ga 0), some (gi a), some (gi b), some (gi i), some (ga B), none] [ga (-1)] (K, R, V) _ _
      refine gX_astore dX11_reading_12 (show (5 : Nat) < 6 from by decide) (ls2 := [some (ga 0), some (gi a), some (gi b), some (gi i), some (ga B), some (ga (-1))]) rfl ?_
      refine gX_aload dX11_reading_14 rfl ?_
      refine gX_ifnull (tgt := 24) dX11_reading_16 (by decide) (fun w1 => absurd (kd_pos hB.1) (by omega)) (fun w1 => ?_)
      refine gX_aload dX11_reading_19 rfl ?_
      refine gX_ifnonnull (tgt := 28) dX11_reading_21 (by decide) (fun w2 => absurd w2 (by omega)) (fun w2 => ?_)
      refine gX_sipush dX11_reading_24 (by decide) ⟨by decide, by decide⟩ ?_
      refine gX_iret dX11_reading_27 (Or.inl rfl) ?_
      have ea : aRead S a b i = -1001 := by
        unfold aRead
        rw [if_neg (by omega)]
      rw [ea] at hQ
      exact hQ V hS gFr.rf
  · by_cases hr2 : 0 ≤ b ∧ b < S.1.length
    · obtain ⟨C, eC⟩ : ∃ C : Int, C = 39 + 70 * b := ⟨_, rfl⟩
      have hC : bkK K R C := by rw [eC]; exact (hBk b (by omega) (by omega)).2
      obtain ⟨q2, eq2⟩ : ∃ q2, q2 = gbq S b := ⟨_, rfl⟩
      obtain ⟨hb2, hm2⟩ := hS.bk hr2.1 hr2.2 eC
      rw [← eq2] at hb2 hm2
      refine gX_aloadn dX11_reading_0 rfl ?_
      refine gX_iloadn dX11_reading_1 rfl ?_
      refine gX_virt (J := iX11_bookAt) (av := [gi a]) (a := 0) (st := []) dX11_reading_2 lkX11_142 kX11_bookAt vX11_bookAt (gFit_m (by decide)) hO rfl rfl (Nat.le_of_ble_eq_true rfl) (Nat.zero_le _) (Nat.zero_le _) rfl ?_
      refine c_bookAtN hG0 hS hr1 ?_
      show gX l E _ 5 [some (ga 0), some (gi a), some (gi b), some (gi i), none, none] [ga (-1)] (K, R, V) _ _
      refine gX_astore dX11_reading_5 (show (4 : Nat) < 6 from by decide) (ls2 := [some (ga 0), some (gi a), some (gi b), some (gi i), some (ga (-1)), none]) rfl ?_
      refine gX_aloadn dX11_reading_7 rfl ?_
      refine gX_iloadn dX11_reading_8 rfl ?_
      refine gX_virt (J := iX11_bookAt) (av := [gi b]) (a := 0) (st := []) dX11_reading_9 lkX11_142 kX11_bookAt vX11_bookAt (gFit_m (by decide)) hO rfl rfl (Nat.le_of_ble_eq_true rfl) (Nat.zero_le _) (Nat.zero_le _) rfl ?_
      refine c_bookAt hG0 hS hr2 eC ?_
      show gX l E _ 12 [some (ga 0), some (gi a), some (gi b), some (gi i), some (ga (-1)), none] [ga C] (K, R, V) _ _
      refine gX_astore dX11_reading_12 (show (5 : Nat) < 6 from by decide) (ls2 := [some (ga 0), some (gi a), some (gi b), some (gi i), some (ga (-1)), some (ga C)]) rfl ?_
      refine gX_aload dX11_reading_14 rfl ?_
      refine gX_ifnull (tgt := 24) dX11_reading_16 (by decide) (fun w1 => ?_) (fun w1 => absurd w1 (by omega))
      refine gX_sipush dX11_reading_24 (by decide) ⟨by decide, by decide⟩ ?_
      refine gX_iret dX11_reading_27 (Or.inl rfl) ?_
      have ea : aRead S a b i = -1001 := by
        unfold aRead
        rw [if_neg (by omega)]
      rw [ea] at hQ
      exact hQ V hS gFr.rf
    · refine gX_aloadn dX11_reading_0 rfl ?_
      refine gX_iloadn dX11_reading_1 rfl ?_
      refine gX_virt (J := iX11_bookAt) (av := [gi a]) (a := 0) (st := []) dX11_reading_2 lkX11_142 kX11_bookAt vX11_bookAt (gFit_m (by decide)) hO rfl rfl (Nat.le_of_ble_eq_true rfl) (Nat.zero_le _) (Nat.zero_le _) rfl ?_
      refine c_bookAtN hG0 hS hr1 ?_
      show gX l E _ 5 [some (ga 0), some (gi a), some (gi b), some (gi i), none, none] [ga (-1)] (K, R, V) _ _
      refine gX_astore dX11_reading_5 (show (4 : Nat) < 6 from by decide) (ls2 := [some (ga 0), some (gi a), some (gi b), some (gi i), some (ga (-1)), none]) rfl ?_
      refine gX_aloadn dX11_reading_7 rfl ?_
      refine gX_iloadn dX11_reading_8 rfl ?_
      refine gX_virt (J := iX11_bookAt) (av := [gi b]) (a := 0) (st := []) dX11_reading_9 lkX11_142 kX11_bookAt vX11_bookAt (gFit_m (by decide)) hO rfl rfl (Nat.le_of_ble_eq_true rfl) (Nat.zero_le _) (Nat.zero_le _) rfl ?_
      refine c_bookAtN hG0 hS hr2 ?_
      show gX l E _ 12 [some (ga 0), some (gi a), some (gi b), some (gi i), some (ga (-1)), none] [ga (-1)] (K, R, V) _ _
      refine gX_astore dX11_reading_12 (show (5 : Nat) < 6 from by decide) (ls2 := [some (ga 0), some (gi a), some (gi b), some (gi i), some (ga (-1)), some (ga (-1))]) rfl ?_
      refine gX_aload dX11_reading_14 rfl ?_
      refine gX_ifnull (tgt := 24) dX11_reading_16 (by decide) (fun w1 => ?_) (fun w1 => absurd w1 (by omega))
      refine gX_sipush dX11_reading_24 (by decide) ⟨by decide, by decide⟩ ?_
      refine gX_iret dX11_reading_27 (Or.inl rfl) ?_
      have ea : aRead S a b i = -1001 := by
        unfold aRead
        rw [if_neg (by omega)]
      rw [ea] at hQ
      exact hQ V hS gFr.rf
theorem onT_cs (q : gG) : onT q = 0 ∨ onT q = 1 := by
  unfold onT
  split
  · exact Or.inr rfl
  · exact Or.inl rfl
theorem lat_cs (xs : List Int) (i : Int) : lat xs i = -1 ∨ lat xs i ∈ xs := by
  unfold lat
  split
  · exact Or.inl rfl
  · rw [List.getD_eq_getElem?_getD]
    cases h : xs[i.toNat]? with
    | none => exact Or.inl rfl
    | some x => exact Or.inr (List.mem_of_getElem? h)
theorem alg_bd {xs ys : List Int} (h : ys.length ≤ 40) (i : Int) : -1 ≤ lat (alg xs ys 0) i ∧ lat (alg xs ys 0) i ≤ 100 := by
  rcases lat_cs (alg xs ys 0) i with e | e
  · omega
  · rcases alg_mem xs ys e with z | z <;> omega
set_option maxRecDepth 4000 in
theorem c_slipped (hG : gbK K R D T P S' A W L U) (hS : gbIs V S) (hN : ¬ ((0 ≤ a ∧ a < S.1.length) ∧ (0 ≤ b ∧ b < S.1.length)) → Q (some (gi (-1001))) (K, R, V)) (hQ : ∀ q1 q2 So, q1 = gbq S a → q2 = gbq S b → (0 ≤ a ∧ a < S.1.length) → (0 ≤ b ∧ b < S.1.length) → srcIs So q2.1.length (alg q1.1 q2.1 0) → ∀ V', gbIs V' S → gFr V V' 0 775 → Q (some (gi (slpF q1.2.1 (alg q1.1 q2.1 0) q2.1 So q1.2.1.length 0 0))) (K, R, V')) : gC l E (d + 5) iX11_slipped [ga 0, gi a, gi b] (K, R, V) Q := by
  refine gC_of kX11_slipped (ls := [some (ga 0), some (gi a), some (gi b), none, none, none, none, none]) rfl (Nat.le_of_ble_eq_true rfl) ?_
  have hG0 := hG
  obtain ⟨⟨eD, eT, eP, eS, eA, eW, eL, eU⟩, hO, ⟨r0, r1, r2, r3, r4, r5, r6, r7, r8, r9⟩, k1, k2, hDr, hTo, hRe, hSc, hAl, hWt, hTr, hPr, hBk, hHd⟩ := hG
  have hn0 := hS.1
  have hn1 := hS.2.1
  by_cases hr1 : 0 ≤ a ∧ a < S.1.length
  · obtain ⟨B, eB⟩ : ∃ B : Int, B = 39 + 70 * a := ⟨_, rfl⟩
    have hB : bkK K R B := by rw [eB]; exact (hBk a (by omega) (by omega)).2
    obtain ⟨q1, eq1⟩ : ∃ q1, q1 = gbq S a := ⟨_, rfl⟩
    obtain ⟨hb1, hm1⟩ := hS.bk hr1.1 hr1.2 eB
    rw [← eq1] at hb1 hm1
    by_cases hr2 : 0 ≤ b ∧ b < S.1.length
    · obtain ⟨C, eC⟩ : ∃ C : Int, C = 39 + 70 * b := ⟨_, rfl⟩
      have hC : bkK K R C := by rw [eC]; exact (hBk b (by omega) (by omega)).2
      obtain ⟨q2, eq2⟩ : ∃ q2, q2 = gbq S b := ⟨_, rfl⟩
      obtain ⟨hb2, hm2⟩ := hS.bk hr2.1 hr2.2 eC
      rw [← eq2] at hb2 hm2
      have ex1 : gbX S a = q1.1 := by unfold gbX; rw [eq1]
      have ex2 : gbX S b = q2.1 := by unfold gbX; rw [eq2]
      have hg20 := hb1.2.2.1
      refine gX_aloadn dX11_slipped_0 rfl ?_
      refine gX_iloadn dX11_slipped_1 rfl ?_
      refine gX_virt (J := iX11_bookAt) (av := [gi a]) (a := 0) (st := []) dX11_slipped_2 lkX11_142 kX11_bookAt vX11_bookAt (gFit_m (by decide)) hO rfl rfl (Nat.le_of_ble_eq_true rfl) (Nat.zero_le _) (Nat.zero_le _) rfl ?_
      refine c_bookAt hG0 hS hr1 eB ?_
      show gX l E _ 5 [some (ga 0), some (gi a), some (gi b), none, none, none, none, none] [ga B] (K, R, V) _ _
      refine gX_astoren dX11_slipped_5 (show (3 : Nat) < 8 from by decide) (ls2 := [some (ga 0), some (gi a), some (gi b), some (ga B), none, none, none, none]) rfl ?_
      refine gX_aloadn dX11_slipped_6 rfl ?_
      refine gX_iloadn dX11_slipped_7 rfl ?_
      refine gX_virt (J := iX11_bookAt) (av := [gi b]) (a := 0) (st := []) dX11_slipped_8 lkX11_142 kX11_bookAt vX11_bookAt (gFit_m (by decide)) hO rfl rfl (Nat.le_of_ble_eq_true rfl) (Nat.zero_le _) (Nat.zero_le _) rfl ?_
      refine c_bookAt hG0 hS hr2 eC ?_
      show gX l E _ 11 [some (ga 0), some (gi a), some (gi b), some (ga B), none, none, none, none] [ga C] (K, R, V) _ _
      refine gX_astore dX11_slipped_11 (show (4 : Nat) < 8 from by decide) (ls2 := [some (ga 0), some (gi a), some (gi b), some (ga B), some (ga C), none, none, none]) rfl ?_
      refine gX_aloadn dX11_slipped_13 rfl ?_
      refine gX_ifnull (tgt := 22) dX11_slipped_14 (by decide) (fun m1 => absurd (kd_pos hB.1) (by omega)) (fun m1 => ?_)
      refine gX_aload dX11_slipped_17 rfl ?_
      refine gX_ifnonnull (tgt := 26) dX11_slipped_19 (by decide) (fun m2 => ?_) (fun m2 => absurd (kd_pos hC.1) (by omega))
      refine gX_aloadn dX11_slipped_26 rfl ?_
      refine gX_gR 6 dX11_slipped_27 fdX11_50 rfl rfl hO r6 ?_
      refine gX_aloadn dX11_slipped_30 rfl ?_
      refine gX_gR 0 dX11_slipped_31 fdX11_164 rfl rfl hB.1 hB.2.1 ?_
      refine gX_aload dX11_slipped_34 rfl ?_
      refine gX_gR 0 dX11_slipped_36 fdX11_164 rfl rfl hC.1 hC.2.1 ?_
      refine gX_virt (J := iX0_lay) (av := [ga (B + 1), ga (C + 1)]) (a := A) (st := []) dX11_slipped_39 lkX11_237 kX0_lay vX0_lay (gFit_m (by decide)) hAl.1 rfl rfl (Nat.le_of_ble_eq_true rfl) (Nat.zero_le _) (Nat.zero_le _) rfl ?_
      refine c_lay hAl hB.2.2.2.2.2.2.1 hC.2.2.2.2.2.2.1 hb1.1 hb2.1 (by omega) (by omega) (fun V1 So hp1 hs1 hz1 hf1 => ?_)
      show gX l E _ 42 [some (ga 0), some (gi a), some (gi b), some (ga B), some (ga C), none, none, none] [] (K, R, V1) _ _
      refine gX_iconst dX11_slipped_42 ⟨by decide, by decide⟩ ?_
      refine gX_istore dX11_slipped_43 (show (5 : Nat) < 8 from by decide) (ls2 := [some (ga 0), some (gi a), some (gi b), some (ga B), some (ga C), some (gi 0), none, none]) rfl ?_
      refine gX_iconst dX11_slipped_45 ⟨by decide, by decide⟩ ?_
      refine gX_istore dX11_slipped_46 (show (6 : Nat) < 8 from by decide) (ls2 := [some (ga 0), some (gi a), some (gi b), some (ga B), some (ga C), some (gi 0), some (gi 0), none]) rfl ?_
      have hpb : ∀ i : Int, -1 ≤ lat (alg q1.1 q2.1 0) i ∧ lat (alg q1.1 q2.1 0) i ≤ 100 := fun i => alg_bd hb2.1.2.1 i
      have hbv : bkIs V1 B q1.1 q1.2.1 := hb1.fr hf1 (by omega)
      have lp : ∀ (jj : Nat) (g : Int) (x : Int) (j7 : Option gV) (bc bs : Nat), (q1.2.1.length : Int) - g < (jj : Int) → 0 ≤ g → g ≤ q1.2.1.length → (Q (some (gi (slpF q1.2.1 (alg q1.1 q2.1 0) q2.1 So (q1.2.1.length - g.toNat) g x))) (K, R, V1)) → gX l E (gFm E (d + 5) iX11_slipped Q) 48 [some (ga 0), some (gi a), some (gi b), some (ga B), some (ga C), some (gi x), some (gi g), j7] [] (K, R, V1) bc bs := by
        intro jj
        induction jj with
        | zero =>
          intro g x j7 bc bs hj q0 q1z hq2
          exfalso; omega
        | succ jj ih =>
          intro g x j7 bc bs hj q0 q1z hq2
          refine gX_iload dX11_slipped_48 rfl ?_
          refine gX_aloadn dX11_slipped_50 rfl ?_
          refine gX_gI 5 dX11_slipped_51 fdX11_182 rfl (Or.inl rfl) hB.1 ?_
          rw [hbv.2.1]
          refine gX_icmpge (tgt := 110) dX11_slipped_54 (by decide) (fun w1 => ?_) (fun w1 => ?_)
          · refine gX_iload dX11_slipped_110 rfl ?_
            refine gX_iret dX11_slipped_112 (Or.inl rfl) ?_
            have ei : q1.2.1.length - g.toNat = 0 := by omega
            rw [ei] at hq2
            exact hq2
          · obtain ⟨G, eG⟩ : ∃ G : Int, G = B + 10 + 3 * g := ⟨_, rfl⟩
            have hG1 : glK K R G := by rw [eG]; exact (hB.2.2.2.2.2.2.2.2.2.2.2 g (by omega) (by omega)).2
            have hgl := hbv.gl (g := g) (by omega) (by omega)
            rw [← eG] at hgl
            refine gX_aloadn dX11_slipped_57 rfl ?_
            refine gX_iload dX11_slipped_58 rfl ?_
            refine gX_virt (J := iX1_glossAt) (av := [gi g]) (a := B) (st := []) dX11_slipped_60 lkX11_178 kX1_glossAt vX1_glossAt (gFit_m (by decide)) hB.1 rfl rfl (Nat.le_of_ble_eq_true rfl) (Nat.zero_le _) (Nat.zero_le _) rfl ?_
            refine c_glossAtE hB hbv (by omega) (by omega) eG ?_
            show gX l E _ 63 [some (ga 0), some (gi a), some (gi b), some (ga B), some (ga C), some (gi x), some (gi g), j7] [ga G] (K, R, V1) _ _
            refine gX_astore dX11_slipped_63 (show (7 : Nat) < 8 from by decide) (ls2 := [some (ga 0), some (gi a), some (gi b), some (ga B), some (ga C), some (gi x), some (gi g), some (ga G)]) rfl ?_
            refine gX_aload dX11_slipped_65 rfl ?_
            refine gX_ifnull (tgt := 104) dX11_slipped_67 (by decide) (fun w2 => absurd (kd_pos hG1.1) (by omega)) (fun w2 => ?_)
            refine gX_aload dX11_slipped_70 rfl ?_
            refine gX_virt (J := iX3_isOnText) (av := []) (a := G) (st := []) dX11_slipped_72 lkX11_244 kX3_isOnText vX3_isOnText (gFit_m (by decide)) hG1.1 rfl rfl (Nat.le_of_ble_eq_true rfl) (Nat.zero_le _) (Nat.zero_le _) rfl ?_
            refine c_isOnText hG1 hgl ?_
            show gX l E _ 75 [some (ga 0), some (gi a), some (gi b), some (ga B), some (ga C), some (gi x), some (gi g), some (ga G)] [gi (onT (gq q1.2.1 g))] (K, R, V1) _ _
            refine gX_ifeq (tgt := 104) dX11_slipped_75 (by decide) (fun w3 => ?_) (fun w3 => ?_)
            · refine gX_iinc dX11_slipped_104 rfl (show (6 : Nat) < 8 from by decide) ⟨by omega, by omega⟩ (ls2 := [some (ga 0), some (gi a), some (gi b), some (ga B), some (ga C), some (gi x), some (gi (g + 1)), some (ga G)]) rfl ?_
              refine gX_goto (tgt := 48) dX11_slipped_107 (by decide) ?_
              have ek : q1.2.1.length - g.toNat = (q1.2.1.length - (g + 1).toNat) + 1 := by omega
              have e1 : slpF q1.2.1 (alg q1.1 q2.1 0) q2.1 So (q1.2.1.length - g.toNat) g x = slpF q1.2.1 (alg q1.1 q2.1 0) q2.1 So (q1.2.1.length - (g + 1).toNat) (g + 1) (x) := by
                rw [ek]
                show slpF _ _ _ _ _ _ (if _ then _ else _) = _
                rw [if_neg (by rintro ⟨z1, z2⟩; first | omega | (rw [b2i_0 (b := hsl (alg q1.1 q2.1 0) q2.1 So (gq q1.2.1 g)) (by assumption)] at z2; exact absurd z2 (by decide)))]
              rw [e1] at hq2
              exact ih (g + 1) _ _ _ _ (by omega) (by omega) (by omega) hq2
            · refine gX_aloadn dX11_slipped_78 rfl ?_
              refine gX_gR 6 dX11_slipped_79 fdX11_50 rfl rfl hO r6 ?_
              refine gX_aload dX11_slipped_82 rfl ?_
              refine gX_aload dX11_slipped_84 rfl ?_
              refine gX_gR 0 dX11_slipped_86 fdX11_164 rfl rfl hC.1 hC.2.1 ?_
              refine gX_virt (J := iX0_hasSlipped) (av := [ga G, ga (C + 1)]) (a := A) (st := []) dX11_slipped_89 lkX11_248 kX0_hasSlipped vX0_hasSlipped (gFit_m (by decide)) hAl.1 rfl rfl (Nat.le_of_ble_eq_true rfl) (Nat.zero_le _) (Nat.zero_le _) rfl ?_
              refine c_hasSlipped hAl hG1 hgl hC.2.2.2.2.2.2.1 (hb2.1.fr hf1 (by omega)) hp1 hs1 hpb ?_
              show gX l E _ 92 [some (ga 0), some (gi a), some (gi b), some (ga B), some (ga C), some (gi x), some (gi g), some (ga G)] [gi (b2i (hsl (alg q1.1 q2.1 0) q2.1 So (gq q1.2.1 g)))] (K, R, V1) _ _
              refine gX_ifeq (tgt := 104) dX11_slipped_92 (by decide) (fun w4 => ?_) (fun w4 => ?_)
              · refine gX_iinc dX11_slipped_104 rfl (show (6 : Nat) < 8 from by decide) ⟨by omega, by omega⟩ (ls2 := [some (ga 0), some (gi a), some (gi b), some (ga B), some (ga C), some (gi x), some (gi (g + 1)), some (ga G)]) rfl ?_
                refine gX_goto (tgt := 48) dX11_slipped_107 (by decide) ?_
                have ek : q1.2.1.length - g.toNat = (q1.2.1.length - (g + 1).toNat) + 1 := by omega
                have e1 : slpF q1.2.1 (alg q1.1 q2.1 0) q2.1 So (q1.2.1.length - g.toNat) g x = slpF q1.2.1 (alg q1.1 q2.1 0) q2.1 So (q1.2.1.length - (g + 1).toNat) (g + 1) (x) := by
                  rw [ek]
                  show slpF _ _ _ _ _ _ (if _ then _ else _) = _
                  rw [if_neg (by rintro ⟨z1, z2⟩; first | omega | (rw [b2i_0 (b := hsl (alg q1.1 q2.1 0) q2.1 So (gq q1.2.1 g)) (by assumption)] at z2; exact absurd z2 (by decide)))]
                rw [e1] at hq2
                exact ih (g + 1) _ _ _ _ (by omega) (by omega) (by omega) hq2
              · refine gX_iload dX11_slipped_95 rfl ?_
                refine gX_iconst dX11_slipped_97 ⟨by decide, by decide⟩ ?_
                refine gX_iload dX11_slipped_98 rfl ?_
                refine gX_ishl dX11_slipped_100 ?_
                refine gX_ior dX11_slipped_101 ?_
                refine gX_istore dX11_slipped_102 (show (5 : Nat) < 8 from by decide) (ls2 := [some (ga 0), some (gi a), some (gi b), some (ga B), some (ga C), some (gi (gor x (gshl 1 g))), some (gi g), some (ga G)]) rfl ?_
                refine gX_iinc dX11_slipped_104 rfl (show (6 : Nat) < 8 from by decide) ⟨by omega, by omega⟩ (ls2 := [some (ga 0), some (gi a), some (gi b), some (ga B), some (ga C), some (gi (gor x (gshl 1 g))), some (gi (g + 1)), some (ga G)]) rfl ?_
                refine gX_goto (tgt := 48) dX11_slipped_107 (by decide) ?_
                have ek : q1.2.1.length - g.toNat = (q1.2.1.length - (g + 1).toNat) + 1 := by omega
                have e1 : slpF q1.2.1 (alg q1.1 q2.1 0) q2.1 So (q1.2.1.length - g.toNat) g x = slpF q1.2.1 (alg q1.1 q2.1 0) q2.1 So (q1.2.1.length - (g + 1).toNat) (g + 1) (gor x (gshl 1 g)) := by
                  rw [ek]
                  show slpF _ _ _ _ _ _ (if _ then _ else _) = _
                  rw [if_pos ⟨by have := onT_cs (gq q1.2.1 g); omega, b2i_1 (by assumption)⟩]
                rw [e1] at hq2
                exact ih (g + 1) _ _ _ _ (by omega) (by omega) (by omega) hq2
      have hQ2 := hQ q1 q2 So eq1 eq2 hr1 hr2 hz1 V1 (hS.look (hf1.wide (by omega) (by omega))) (hf1.wide (by omega) (by omega))
      exact lp (q1.2.1.length + 1) 0 0 none _ _ (by omega) (by omega) (by omega) hQ2
    · refine gX_aloadn dX11_slipped_0 rfl ?_
      refine gX_iloadn dX11_slipped_1 rfl ?_
      refine gX_virt (J := iX11_bookAt) (av := [gi a]) (a := 0) (st := []) dX11_slipped_2 lkX11_142 kX11_bookAt vX11_bookAt (gFit_m (by decide)) hO rfl rfl (Nat.le_of_ble_eq_true rfl) (Nat.zero_le _) (Nat.zero_le _) rfl ?_
      refine c_bookAt hG0 hS hr1 eB ?_
      show gX l E _ 5 [some (ga 0), some (gi a), some (gi b), none, none, none, none, none] [ga B] (K, R, V) _ _
      refine gX_astoren dX11_slipped_5 (show (3 : Nat) < 8 from by decide) (ls2 := [some (ga 0), some (gi a), some (gi b), some (ga B), none, none, none, none]) rfl ?_
      refine gX_aloadn dX11_slipped_6 rfl ?_
      refine gX_iloadn dX11_slipped_7 rfl ?_
      refine gX_virt (J := iX11_bookAt) (av := [gi b]) (a := 0) (st := []) dX11_slipped_8 lkX11_142 kX11_bookAt vX11_bookAt (gFit_m (by decide)) hO rfl rfl (Nat.le_of_ble_eq_true rfl) (Nat.zero_le _) (Nat.zero_le _) rfl ?_
      refine c_bookAtN hG0 hS hr2 ?_
      show gX l E _ 11 [some (ga 0), some (gi a), some (gi b), some (ga B), none, none, none, none] [ga (-1)] (K, R, V) _ _
      refine gX_astore dX11_slipped_11 (show (4 : Nat) < 8 from by decide) (ls2 := [some (ga 0), some (gi a), some (gi b), some (ga B), some (ga (-1)), none, none, none]) rfl ?_
      refine gX_aloadn dX11_slipped_13 rfl ?_
      refine gX_ifnull (tgt := 22) dX11_slipped_14 (by decide) (fun w1 => absurd (kd_pos hB.1) (by omega)) (fun w1 => ?_)
      refine gX_aload dX11_slipped_17 rfl ?_
      refine gX_ifnonnull (tgt := 26) dX11_slipped_19 (by decide) (fun w2 => absurd w2 (by omega)) (fun w2 => ?_)
      refine gX_sipush dX11_slipped_22 (by decide) ⟨by decide, by decide⟩ ?_
      refine gX_iret dX11_slipped_25 (Or.inl rfl) ?_
      exact hN (by omega)
  · by_cases hr2 : 0 ≤ b ∧ b < S.1.length
    · obtain ⟨C, eC⟩ : ∃ C : Int, C = 39 + 70 * b := ⟨_, rfl⟩
      have hC : bkK K R C := by rw [eC]; exact (hBk b (by omega) (by omega)).2
      obtain ⟨q2, eq2⟩ : ∃ q2, q2 = gbq S b := ⟨_, rfl⟩
      obtain ⟨hb2, hm2⟩ := hS.bk hr2.1 hr2.2 eC
      rw [← eq2] at hb2 hm2
      refine gX_aloadn dX11_slipped_0 rfl ?_
      refine gX_iloadn dX11_slipped_1 rfl ?_
      refine gX_virt (J := iX11_bookAt) (av := [gi a]) (a := 0) (st := []) dX11_slipped_2 lkX11_142 kX11_bookAt vX11_bookAt (gFit_m (by decide)) hO rfl rfl (Nat.le_of_ble_eq_true rfl) (Nat.zero_le _) (Nat.zero_le _) rfl ?_
      refine c_bookAtN hG0 hS hr1 ?_
      show gX l E _ 5 [some (ga 0), some (gi a), some (gi b), none, none, none, none, none] [ga (-1)] (K, R, V) _ _
      refine gX_astoren dX11_slipped_5 (show (3 : Nat) < 8 from by decide) (ls2 := [some (ga 0), some (gi a), some (gi b), some (ga (-1)), none, none, none, none]) rfl ?_
      refine gX_aloadn dX11_slipped_6 rfl ?_
      refine gX_iloadn dX11_slipped_7 rfl ?_
      refine gX_virt (J := iX11_bookAt) (av := [gi b]) (a := 0) (st := []) dX11_slipped_8 lkX11_142 kX11_bookAt vX11_bookAt (gFit_m (by decide)) hO rfl rfl (Nat.le_of_ble_eq_true rfl) (Nat.zero_le _) (Nat.zero_le _) rfl ?_
      refine c_bookAt hG0 hS hr2 eC ?_
      show gX l E _ 11 [some (ga 0), some (gi a), some (gi b), some (ga (-1)), none, none, none, none] [ga C] (K, R, V) _ _
      refine gX_astore dX11_slipped_11 (show (4 : Nat) < 8 from by decide) (ls2 := [some (ga 0), some (gi a), some (gi b), some (ga (-1)), some (ga C), none, none, none]) rfl ?_
      refine gX_aloadn dX11_slipped_13 rfl ?_
      refine gX_ifnull (tgt := 22) dX11_slipped_14 (by decide) (fun w1 => ?_) (fun w1 => absurd w1 (by omega))
      refine gX_sipush dX11_slipped_22 (by decide) ⟨by decide, by decide⟩ ?_
      refine gX_iret dX11_slipped_25 (Or.inl rfl) ?_
      exact hN (by omega)
    · refine gX_aloadn dX11_slipped_0 rfl ?_
      refine gX_iloadn dX11_slipped_1 rfl ?_
      refine gX_virt (J := iX11_bookAt) (av := [gi a]) (a := 0) (st := []) dX11_slipped_2 lkX11_142 kX11_bookAt vX11_bookAt (gFit_m (by decide)) hO rfl rfl (Nat.le_of_ble_eq_true rfl) (Nat.zero_le _) (Nat.zero_le _) rfl ?_
      refine c_bookAtN hG0 hS hr1 ?_
      show gX l E _ 5 [some (ga 0), some (gi a), some (gi b), none, none, none, none, none] [ga (-1)] (K, R, V) _ _
      refine gX_astoren dX11_slipped_5 (show (3 : Nat) < 8 from by decide) (ls2 := [some (ga 0), some (gi a), some (gi b), some (ga (-1)), none, none, none, none]) rfl ?_
      refine gX_aloadn dX11_slipped_6 rfl ?_
      refine gX_iloadn dX11_slipped_7 rfl ?_
      refine gX_virt (J := iX11_bookAt) (av := [gi b]) (a := 0) (st := []) dX11_slipped_8 lkX11_142 kX11_bookAt vX11_bookAt (gFit_m (by decide)) hO rfl rfl (Nat.le_of_ble_eq_true rfl) (Nat.zero_le _) (Nat.zero_le _) rfl ?_
      refine c_bookAtN hG0 hS hr2 ?_
      show gX l E _ 11 [some (ga 0), some (gi a), some (gi b), some (ga (-1)), none, none, none, none] [ga (-1)] (K, R, V) _ _
      refine gX_astore dX11_slipped_11 (show (4 : Nat) < 8 from by decide) (ls2 := [some (ga 0), some (gi a), some (gi b), some (ga (-1)), some (ga (-1)), none, none, none]) rfl ?_
      refine gX_aloadn dX11_slipped_13 rfl ?_
      refine gX_ifnull (tgt := 22) dX11_slipped_14 (by decide) (fun w1 => ?_) (fun w1 => absurd w1 (by omega))
      refine gX_sipush dX11_slipped_22 (by decide) ⟨by decide, by decide⟩ ?_
      refine gX_iret dX11_slipped_25 (Or.inl rfl) ?_
      exact hN (by omega)
set_option maxRecDepth 4000 in
theorem c_isSet (hG : gbK K R D T P S' A W L U) (hS : gbIs V S) (hQ : Q (some (gi (b2i (isS S.1.length se)))) (K, R, V)) : gC l E (d + 1) iX11_isSetOfBooks [ga 0, gi se] (K, R, V) Q := by
  refine gC_of kX11_isSetOfBooks (ls := [some (ga 0), some (gi se)]) rfl (Nat.le_of_ble_eq_true rfl) ?_
  have hG0 := hG
  obtain ⟨⟨eD, eT, eP, eS, eA, eW, eL, eU⟩, hO, ⟨r0, r1, r2, r3, r4, r5, r6, r7, r8, r9⟩, k1, k2, hDr, hTo, hRe, hSc, hAl, hWt, hTr, hPr, hBk, hHd⟩ := hG
  have hn0 := hS.1
  have hn1 := hS.2.1
  refine gX_iloadn dX11_isSetOfBooks_0 rfl ?_
  refine gX_aloadn dX11_isSetOfBooks_1 rfl ?_
  refine gX_gI 10 dX11_isSetOfBooks_2 fdX11_77 rfl (Or.inl rfl) hO ?_
  rw [hn0]
  refine gX_iushr dX11_isSetOfBooks_5 ?_
  refine gX_ifne (tgt := 13) dX11_isSetOfBooks_6 (by decide) (fun w1 => ?_) (fun w1 => ?_)
  · refine gX_iconst dX11_isSetOfBooks_13 ⟨by decide, by decide⟩ ?_
    refine gX_iret dX11_isSetOfBooks_14 (Or.inr ⟨rfl, Or.inl rfl⟩) ?_
    have ec : isS S.1.length se = false := by unfold isS; simp only [decide_eq_true_eq, decide_eq_false_iff_not]; omega
    rw [ec] at hQ
    exact hQ
  · refine gX_iconst dX11_isSetOfBooks_9 ⟨by decide, by decide⟩ ?_
    refine gX_goto (tgt := 14) dX11_isSetOfBooks_10 (by decide) ?_
    refine gX_iret dX11_isSetOfBooks_14 (Or.inr ⟨rfl, Or.inr rfl⟩) ?_
    have ec : isS S.1.length se = true := by unfold isS; simp only [decide_eq_true_eq, decide_eq_false_iff_not]; omega
    rw [ec] at hQ
    exact hQ
set_option maxRecDepth 4000 in
theorem c_hearW (hG : gbK K R D T P S' A W L U) (hS : gbIs V S) (hr1 : 0 ≤ ba ∧ ba < S.1.length) (hQ : ∀ V', wtIs V' W (hwR S ba se) ba se (gbX S ba).length → gFr V V' A (W + 3) → Q none (K, R, V')) : gC l E (d + 5) iX11_hearWitnesses [ga 0, gi ba, gi se] (K, R, V) Q := by
  refine gC_of kX11_hearWitnesses (ls := [some (ga 0), some (gi ba), some (gi se), none, none, none, none]) rfl (Nat.le_of_ble_eq_true rfl) ?_
  have hG0 := hG
  obtain ⟨⟨eD, eT, eP, eS, eA, eW, eL, eU⟩, hO, ⟨r0, r1, r2, r3, r4, r5, r6, r7, r8, r9⟩, k1, k2, hDr, hTo, hRe, hSc, hAl, hWt, hTr, hPr, hBk, hHd⟩ := hG
  have hn0 := hS.1
  have hn1 := hS.2.1
  obtain ⟨B, eB⟩ : ∃ B : Int, B = 39 + 70 * ba := ⟨_, rfl⟩
  have hB : bkK K R B := by rw [eB]; exact (hBk ba (by omega) (by omega)).2
  obtain ⟨q1, eq1⟩ : ∃ q1, q1 = gbq S ba := ⟨_, rfl⟩
  obtain ⟨hb1, hm1⟩ := hS.bk hr1.1 hr1.2 eB
  rw [← eq1] at hb1 hm1
  have ex1 : gbX S ba = q1.1 := by unfold gbX; rw [eq1]
  have hl40 := hb1.1.2.1
  have lp : ∀ (jj : Nat) (b : Int) (rd : List Int) (j5 : Option gV) (j6 : Option gV) (V1 : Int → Int → Int) (bc bs : Nat), (S.1.length : Int) - b < (jj : Int) → 0 ≤ b → b ≤ S.1.length → wtIs V1 W rd ba se q1.1.length → gFr V V1 A (W + 3) → (∀ V', wtIs V' W (hwF S ba se (S.1.length - b.toNat) b rd) ba se q1.1.length → gFr V V' A (W + 3) → Q none (K, R, V')) → gX l E (gFm E (d + 5) iX11_hearWitnesses Q) 30 [some (ga 0), some (gi ba), some (gi se), some (ga B), some (gi b), j5, j6] [] (K, R, V1) bc bs := by
    intro jj
    induction jj with
    | zero =>
      intro b rd j5 j6 V1 bc bs hj q0 q1z hw1 hf1 hq2
      exfalso; omega
    | succ jj ih =>
      intro b rd j5 j6 V1 bc bs hj q0 q1z hw1 hf1 hq2
      refine gX_iload dX11_hearWitnesses_30 rfl ?_
      refine gX_aloadn dX11_hearWitnesses_32 rfl ?_
      refine gX_gI 10 dX11_hearWitnesses_33 fdX11_77 rfl (Or.inl rfl) hO ?_
      rw [show V1 0 10 = (S.1.length : Int) by rw [hf1 0 (by omega)]; exact hS.1]
      refine gX_icmpge (tgt := 141) dX11_hearWitnesses_36 (by decide) (fun m1 => ?_) (fun m1 => ?_)
      · refine gX_vret dX11_hearWitnesses_141 rfl ?_
        have ei : S.1.length - b.toNat = 0 := by omega
        rw [ei] at hq2
        exact hq2 V1 hw1 hf1
      · have hr2 : 0 ≤ b ∧ b < S.1.length := ⟨by omega, by omega⟩
        obtain ⟨C, eC⟩ : ∃ C : Int, C = 39 + 70 * b := ⟨_, rfl⟩
        have hC : bkK K R C := by rw [eC]; exact (hBk b (by omega) (by omega)).2
        obtain ⟨q2, eq2⟩ : ∃ q2, q2 = gbq S b := ⟨_, rfl⟩
        obtain ⟨hb2, hm2⟩ := hS.bk hr2.1 hr2.2 eC
        rw [← eq2] at hb2 hm2
        refine gX_aloadn dX11_hearWitnesses_39 rfl ?_
        refine gX_iload dX11_hearWitnesses_40 rfl ?_
        refine gX_virt (J := iX11_bookAt) (av := [gi b]) (a := 0) (st := []) dX11_hearWitnesses_42 lkX11_142 kX11_bookAt vX11_bookAt (gFit_m (by decide)) hO rfl rfl (Nat.le_of_ble_eq_true rfl) (Nat.zero_le _) (Nat.zero_le _) rfl ?_
        refine c_bookAt hG0 (hS.look (hf1.wide (by omega) (by omega))) hr2 eC ?_
        show gX l E _ 45 [some (ga 0), some (gi ba), some (gi se), some (ga B), some (gi b), j5, j6] [ga C] (K, R, V1) _ _
        refine gX_astore dX11_hearWitnesses_45 (show (5 : Nat) < 7 from by decide) (ls2 := [some (ga 0), some (gi ba), some (gi se), some (ga B), some (gi b), some (ga C), j6]) rfl ?_
        refine gX_aload dX11_hearWitnesses_47 rfl ?_
        refine gX_ifnull (tgt := 135) dX11_hearWitnesses_49 (by decide) (fun m2 => absurd (kd_pos hC.1) (by omega)) (fun m2 => ?_)
        refine gX_iload dX11_hearWitnesses_52 rfl ?_
        refine gX_iloadn dX11_hearWitnesses_54 rfl ?_
        refine gX_icmpeq (tgt := 67) dX11_hearWitnesses_55 (by decide) (fun m3 => ?_) (fun m3 => ?_)
        · refine gX_aloadn dX11_hearWitnesses_67 rfl ?_
          refine gX_gR 6 dX11_hearWitnesses_68 fdX11_50 rfl rfl hO r6 ?_
          refine gX_aloadn dX11_hearWitnesses_71 rfl ?_
          refine gX_gR 0 dX11_hearWitnesses_72 fdX11_164 rfl rfl hB.1 hB.2.1 ?_
          refine gX_aload dX11_hearWitnesses_75 rfl ?_
          refine gX_gR 0 dX11_hearWitnesses_77 fdX11_164 rfl rfl hC.1 hC.2.1 ?_
          refine gX_virt (J := iX0_lay) (av := [ga (B + 1), ga (C + 1)]) (a := A) (st := []) dX11_hearWitnesses_80 lkX11_237 kX0_lay vX0_lay (gFit_m (by decide)) hAl.1 rfl rfl (Nat.le_of_ble_eq_true rfl) (Nat.zero_le _) (Nat.zero_le _) rfl ?_
          refine c_lay hAl hB.2.2.2.2.2.2.1 hC.2.2.2.2.2.2.1 (hb1.1.fr hf1 (by omega)) (hb2.1.fr hf1 (by omega)) (by omega) (by omega) (fun V2 So hp2 hs2 hz2 hf2 => ?_)
          show gX l E _ 83 [some (ga 0), some (gi ba), some (gi se), some (ga B), some (gi b), some (ga C), j6] [] (K, R, V2) _ _
          refine gX_iconst dX11_hearWitnesses_83 ⟨by decide, by decide⟩ ?_
          refine gX_istore dX11_hearWitnesses_84 (show (6 : Nat) < 7 from by decide) (ls2 := [some (ga 0), some (gi ba), some (gi se), some (ga B), some (gi b), some (ga C), some (gi 0)]) rfl ?_
          have hor : b = ba ∨ inB se b = true := by
            first
            | exact Or.inl (by omega)
            | exact Or.inr (b2i_1 (b := inB se b) (by assumption))
          have lq : ∀ (jj : Nat) (i : Int) (rd : List Int) (V3 : Int → Int → Int) (bc bs : Nat), (q1.1.length : Int) - i < (jj : Int) → 0 ≤ i → i ≤ q1.1.length → rIs V3 (A + 2) 40 (alg q1.1 q2.1 0) → wtIs V3 W rd ba se q1.1.length → gFr V V3 A (W + 3) → (∀ V' i2 bc bs, wtIs V' W (hwI q2.1 (alg q1.1 q2.1 0) b (q1.1.length - i.toNat) i rd) ba se q1.1.length → gFr V V' A (W + 3) → gX l E (gFm E (d + 5) iX11_hearWitnesses Q) 135 [some (ga 0), some (gi ba), some (gi se), some (ga B), some (gi b), some (ga C), i2] [] (K, R, V') bc bs) → gX l E (gFm E (d + 5) iX11_hearWitnesses Q) 86 [some (ga 0), some (gi ba), some (gi se), some (ga B), some (gi b), some (ga C), some (gi i)] [] (K, R, V3) bc bs := by
            intro jj
            induction jj with
            | zero =>
              intro i rd V3 bc bs hj k0 k1 hp3 hw3 hf3 hk2
              exfalso; omega
            | succ jj ih =>
              intro i rd V3 bc bs hj k0 k1 hp3 hw3 hf3 hk2
              refine gX_iload dX11_hearWitnesses_86 rfl ?_
              refine gX_aloadn dX11_hearWitnesses_88 rfl ?_
              refine gX_gR 0 dX11_hearWitnesses_89 fdX11_164 rfl rfl hB.1 hB.2.1 ?_
              refine gX_virt (J := iX6_length) (av := []) (a := (B + 1)) (st := [gi i]) dX11_hearWitnesses_92 lkX11_88 kX6_length vX6_length (gFit_m (by decide)) hB.2.2.2.2.2.2.1.1 rfl rfl (Nat.le_of_ble_eq_true rfl) (Nat.zero_le _) (Nat.zero_le _) rfl ?_
              refine q_Row_length hB.2.2.2.2.2.2.1 (hb1.1.fr hf3 (by omega)) ?_
              show gX l E _ 95 [some (ga 0), some (gi ba), some (gi se), some (ga B), some (gi b), some (ga C), some (gi i)] [gi q1.1.length, gi i] (K, R, V3) _ _
              refine gX_icmpge (tgt := 135) dX11_hearWitnesses_95 (by decide) (fun w1 => ?_) (fun w1 => ?_)
              · have ei : q1.1.length - i.toNat = 0 := by omega
                rw [ei] at hk2
                exact hk2 V3 _ _ _ hw3 hf3
              · refine gX_aloadn dX11_hearWitnesses_98 rfl ?_
                refine gX_gR 7 dX11_hearWitnesses_99 fdX11_57 rfl rfl hO r7 ?_
                refine gX_iload dX11_hearWitnesses_102 rfl ?_
                refine gX_iload dX11_hearWitnesses_104 rfl ?_
                refine gX_aload dX11_hearWitnesses_106 rfl ?_
                refine gX_gR 0 dX11_hearWitnesses_108 fdX11_164 rfl rfl hC.1 hC.2.1 ?_
                refine gX_aloadn dX11_hearWitnesses_111 rfl ?_
                refine gX_gR 6 dX11_hearWitnesses_112 fdX11_50 rfl rfl hO r6 ?_
                refine gX_gR 1 dX11_hearWitnesses_115 fdX11_241 rfl rfl hAl.1 hAl.2.2.2.1 ?_
                refine gX_iload dX11_hearWitnesses_118 rfl ?_
                refine gX_virt (J := iX6_at) (av := [gi i]) (a := (A + 2)) (st := [ga (C + 1), gi i, gi b, ga W]) dX11_hearWitnesses_120 lkX11_132 kX6_at vX6_at (gFit_m (by decide)) hAl.2.2.2.2.2.1.1 rfl rfl (Nat.le_of_ble_eq_true rfl) (Nat.zero_le _) (Nat.zero_le _) rfl ?_
                refine q_Row_at hAl.2.2.2.2.2.1 hp3 ?_
                show gX l E _ 123 [some (ga 0), some (gi ba), some (gi se), some (ga B), some (gi b), some (ga C), some (gi i)] [gi (lat (alg q1.1 q2.1 0) i), ga (C + 1), gi i, gi b, ga W] (K, R, V3) _ _
                refine gX_virt (J := iX6_at) (av := [gi (lat (alg q1.1 q2.1 0) i)]) (a := (C + 1)) (st := [gi i, gi b, ga W]) dX11_hearWitnesses_123 lkX11_132 kX6_at vX6_at (gFit_m (by decide)) hC.2.2.2.2.2.2.1.1 rfl rfl (Nat.le_of_ble_eq_true rfl) (Nat.zero_le _) (Nat.zero_le _) rfl ?_
                refine q_Row_at hC.2.2.2.2.2.2.1 (hb2.1.fr hf3 (by omega)) ?_
                show gX l E _ 126 [some (ga 0), some (gi ba), some (gi se), some (ga B), some (gi b), some (ga C), some (gi i)] [gi (lat q2.1 (lat (alg q1.1 q2.1 0) i)), gi i, gi b, ga W] (K, R, V3) _ _
                refine gX_virt (J := iX10_hear) (av := [gi b, gi i, gi (lat q2.1 (lat (alg q1.1 q2.1 0) i))]) (a := W) (st := []) dX11_hearWitnesses_126 lkX11_313 kX10_hear vX10_hear (gFit_m (by decide)) hWt.1 rfl rfl (Nat.le_of_ble_eq_true rfl) (Nat.zero_le _) (Nat.zero_le _) rfl ?_
                refine c_hear hWt hw3 ⟨by omega, by omega, by omega, by omega⟩ (fun V4 hw4 hf4 => ?_)
                show gX l E _ 129 [some (ga 0), some (gi ba), some (gi se), some (ga B), some (gi b), some (ga C), some (gi i)] [] (K, R, V4) _ _
                refine gX_iinc dX11_hearWitnesses_129 rfl (show (6 : Nat) < 7 from by decide) ⟨by omega, by omega⟩ (ls2 := [some (ga 0), some (gi ba), some (gi se), some (ga B), some (gi b), some (ga C), some (gi (i + 1))]) rfl ?_
                refine gX_goto (tgt := 86) dX11_hearWitnesses_132 (by decide) ?_
                have ek : q1.1.length - i.toNat = (q1.1.length - (i + 1).toNat) + 1 := by omega
                have e1 : hwI q2.1 (alg q1.1 q2.1 0) b (q1.1.length - i.toNat) i rd = hwI q2.1 (alg q1.1 q2.1 0) b (q1.1.length - (i + 1).toNat) (i + 1) (lput rd (b * 40 + i) (lat q2.1 (lat (alg q1.1 q2.1 0) i))) := by rw [ek]; rfl
                rw [e1] at hk2
                exact ih (i + 1) _ V4 _ _ (by omega) (by omega) (by omega) (hp3.fr hf4 (by omega)) hw4 (hf3.trans (hf4.wide (by omega) (by omega))) hk2
          refine lq (q1.1.length + 1) 0 rd V2 _ _ (by omega) (by omega) (by omega) hp2 (hw1.kept (hf2 _ (by omega)) (hf2 _ (by omega)) (hf2 _ (by omega))) (hf1.trans (hf2.wide (by omega) (by omega))) (fun V5 i2 bc bs hw5 hf5 => ?_)
          refine gX_iinc dX11_hearWitnesses_135 rfl (show (4 : Nat) < 7 from by decide) ⟨by omega, by omega⟩ (ls2 := [some (ga 0), some (gi ba), some (gi se), some (ga B), some (gi (b + 1)), some (ga C), i2]) rfl ?_
          refine gX_goto (tgt := 30) dX11_hearWitnesses_138 (by decide) ?_
          have ek : S.1.length - b.toNat = (S.1.length - (b + 1).toNat) + 1 := by omega
          have e1 : hwF S ba se (S.1.length - b.toNat) b rd = hwF S ba se (S.1.length - (b + 1).toNat) (b + 1) (hwI q2.1 (alg q1.1 q2.1 0) b q1.1.length 0 rd) := by
            rw [ek]
            show hwF S ba se _ _ (if _ then _ else _) = _
            rw [if_pos hor, show gbX S b = q2.1 by unfold gbX; rw [eq2], ex1]
          rw [e1] at hq2
          exact ih (b + 1) _ _ _ V5 _ _ (by omega) (by omega) (by omega) hw5 hf5 hq2
        · refine gX_iloadn dX11_hearWitnesses_58 rfl ?_
          refine gX_iload dX11_hearWitnesses_59 rfl ?_
          refine gX_stat (J := iX11_isIn) (av := [gi se, gi b]) (st := []) dX11_hearWitnesses_61 lkX11_278 kX11_isIn sX11_isIn (gFit_m (by decide)) rfl (Nat.le_of_ble_eq_true rfl) (Nat.zero_le _) (Nat.zero_le _) rfl ?_
          refine c_isIn ?_
          show gX l E _ 64 [some (ga 0), some (gi ba), some (gi se), some (ga B), some (gi b), some (ga C), j6] [gi (b2i (inB se b))] (K, R, V1) _ _
          refine gX_ifeq (tgt := 135) dX11_hearWitnesses_64 (by decide) (fun m4 => ?_) (fun m4 => ?_)
          · refine gX_iinc dX11_hearWitnesses_135 rfl (show (4 : Nat) < 7 from by decide) ⟨by omega, by omega⟩ (ls2 := [some (ga 0), some (gi ba), some (gi se), some (ga B), some (gi (b + 1)), some (ga C), j6]) rfl ?_
            refine gX_goto (tgt := 30) dX11_hearWitnesses_138 (by decide) ?_
            have ek : S.1.length - b.toNat = (S.1.length - (b + 1).toNat) + 1 := by omega
            have e1 : hwF S ba se (S.1.length - b.toNat) b rd = hwF S ba se (S.1.length - (b + 1).toNat) (b + 1) rd := by
              rw [ek]
              show hwF S ba se _ _ (if _ then _ else _) = _
              rw [if_neg (by rintro (z | z); (first | omega | contradiction); (rw [b2i_0 (b := inB se b) (by assumption)] at z; exact absurd z (by decide)))]
            rw [e1] at hq2
            exact ih (b + 1) rd _ _ V1 _ _ (by omega) (by omega) (by omega) hw1 hf1 hq2
          · refine gX_aloadn dX11_hearWitnesses_67 rfl ?_
            refine gX_gR 6 dX11_hearWitnesses_68 fdX11_50 rfl rfl hO r6 ?_
            refine gX_aloadn dX11_hearWitnesses_71 rfl ?_
            refine gX_gR 0 dX11_hearWitnesses_72 fdX11_164 rfl rfl hB.1 hB.2.1 ?_
            refine gX_aload dX11_hearWitnesses_75 rfl ?_
            refine gX_gR 0 dX11_hearWitnesses_77 fdX11_164 rfl rfl hC.1 hC.2.1 ?_
            refine gX_virt (J := iX0_lay) (av := [ga (B + 1), ga (C + 1)]) (a := A) (st := []) dX11_hearWitnesses_80 lkX11_237 kX0_lay vX0_lay (gFit_m (by decide)) hAl.1 rfl rfl (Nat.le_of_ble_eq_true rfl) (Nat.zero_le _) (Nat.zero_le _) rfl ?_
            refine c_lay hAl hB.2.2.2.2.2.2.1 hC.2.2.2.2.2.2.1 (hb1.1.fr hf1 (by omega)) (hb2.1.fr hf1 (by omega)) (by omega) (by omega) (fun V2 So hp2 hs2 hz2 hf2 => ?_)
            show gX l E _ 83 [some (ga 0), some (gi ba), some (gi se), some (ga B), some (gi b), some (ga C), j6] [] (K, R, V2) _ _
            refine gX_iconst dX11_hearWitnesses_83 ⟨by decide, by decide⟩ ?_
            refine gX_istore dX11_hearWitnesses_84 (show (6 : Nat) < 7 from by decide) (ls2 := [some (ga 0), some (gi ba), some (gi se), some (ga B), some (gi b), some (ga C), some (gi 0)]) rfl ?_
            have hor : b = ba ∨ inB se b = true := by
              first
              | exact Or.inl (by omega)
              | exact Or.inr (b2i_1 (b := inB se b) (by assumption))
            have lq : ∀ (jj : Nat) (i : Int) (rd : List Int) (V3 : Int → Int → Int) (bc bs : Nat), (q1.1.length : Int) - i < (jj : Int) → 0 ≤ i → i ≤ q1.1.length → rIs V3 (A + 2) 40 (alg q1.1 q2.1 0) → wtIs V3 W rd ba se q1.1.length → gFr V V3 A (W + 3) → (∀ V' i2 bc bs, wtIs V' W (hwI q2.1 (alg q1.1 q2.1 0) b (q1.1.length - i.toNat) i rd) ba se q1.1.length → gFr V V' A (W + 3) → gX l E (gFm E (d + 5) iX11_hearWitnesses Q) 135 [some (ga 0), some (gi ba), some (gi se), some (ga B), some (gi b), some (ga C), i2] [] (K, R, V') bc bs) → gX l E (gFm E (d + 5) iX11_hearWitnesses Q) 86 [some (ga 0), some (gi ba), some (gi se), some (ga B), some (gi b), some (ga C), some (gi i)] [] (K, R, V3) bc bs := by
              intro jj
              induction jj with
              | zero =>
                intro i rd V3 bc bs hj k0 k1 hp3 hw3 hf3 hk2
                exfalso; omega
              | succ jj ih =>
                intro i rd V3 bc bs hj k0 k1 hp3 hw3 hf3 hk2
                refine gX_iload dX11_hearWitnesses_86 rfl ?_
                refine gX_aloadn dX11_hearWitnesses_88 rfl ?_
                refine gX_gR 0 dX11_hearWitnesses_89 fdX11_164 rfl rfl hB.1 hB.2.1 ?_
                refine gX_virt (J := iX6_length) (av := []) (a := (B + 1)) (st := [gi i]) dX11_hearWitnesses_92 lkX11_88 kX6_length vX6_length (gFit_m (by decide)) hB.2.2.2.2.2.2.1.1 rfl rfl (Nat.le_of_ble_eq_true rfl) (Nat.zero_le _) (Nat.zero_le _) rfl ?_
                refine q_Row_length hB.2.2.2.2.2.2.1 (hb1.1.fr hf3 (by omega)) ?_
                show gX l E _ 95 [some (ga 0), some (gi ba), some (gi se), some (ga B), some (gi b), some (ga C), some (gi i)] [gi q1.1.length, gi i] (K, R, V3) _ _
                refine gX_icmpge (tgt := 135) dX11_hearWitnesses_95 (by decide) (fun w1 => ?_) (fun w1 => ?_)
                · have ei : q1.1.length - i.toNat = 0 := by omega
                  rw [ei] at hk2
                  exact hk2 V3 _ _ _ hw3 hf3
                · refine gX_aloadn dX11_hearWitnesses_98 rfl ?_
                  refine gX_gR 7 dX11_hearWitnesses_99 fdX11_57 rfl rfl hO r7 ?_
                  refine gX_iload dX11_hearWitnesses_102 rfl ?_
                  refine gX_iload dX11_hearWitnesses_104 rfl ?_
                  refine gX_aload dX11_hearWitnesses_106 rfl ?_
                  refine gX_gR 0 dX11_hearWitnesses_108 fdX11_164 rfl rfl hC.1 hC.2.1 ?_
                  refine gX_aloadn dX11_hearWitnesses_111 rfl ?_
                  refine gX_gR 6 dX11_hearWitnesses_112 fdX11_50 rfl rfl hO r6 ?_
                  refine gX_gR 1 dX11_hearWitnesses_115 fdX11_241 rfl rfl hAl.1 hAl.2.2.2.1 ?_
                  refine gX_iload dX11_hearWitnesses_118 rfl ?_
                  refine gX_virt (J := iX6_at) (av := [gi i]) (a := (A + 2)) (st := [ga (C + 1), gi i, gi b, ga W]) dX11_hearWitnesses_120 lkX11_132 kX6_at vX6_at (gFit_m (by decide)) hAl.2.2.2.2.2.1.1 rfl rfl (Nat.le_of_ble_eq_true rfl) (Nat.zero_le _) (Nat.zero_le _) rfl ?_
                  refine q_Row_at hAl.2.2.2.2.2.1 hp3 ?_
                  show gX l E _ 123 [some (ga 0), some (gi ba), some (gi se), some (ga B), some (gi b), some (ga C), some (gi i)] [gi (lat (alg q1.1 q2.1 0) i), ga (C + 1), gi i, gi b, ga W] (K, R, V3) _ _
                  refine gX_virt (J := iX6_at) (av := [gi (lat (alg q1.1 q2.1 0) i)]) (a := (C + 1)) (st := [gi i, gi b, ga W]) dX11_hearWitnesses_123 lkX11_132 kX6_at vX6_at (gFit_m (by decide)) hC.2.2.2.2.2.2.1.1 rfl rfl (Nat.le_of_ble_eq_true rfl) (Nat.zero_le _) (Nat.zero_le _) rfl ?_
                  refine q_Row_at hC.2.2.2.2.2.2.1 (hb2.1.fr hf3 (by omega)) ?_
                  show gX l E _ 126 [some (ga 0), some (gi ba), some (gi se), some (ga B), some (gi b), some (ga C), some (gi i)] [gi (lat q2.1 (lat (alg q1.1 q2.1 0) i)), gi i, gi b, ga W] (K, R, V3) _ _
                  refine gX_virt (J := iX10_hear) (av := [gi b, gi i, gi (lat q2.1 (lat (alg q1.1 q2.1 0) i))]) (a := W) (st := []) dX11_hearWitnesses_126 lkX11_313 kX10_hear vX10_hear (gFit_m (by decide)) hWt.1 rfl rfl (Nat.le_of_ble_eq_true rfl) (Nat.zero_le _) (Nat.zero_le _) rfl ?_
                  refine c_hear hWt hw3 ⟨by omega, by omega, by omega, by omega⟩ (fun V4 hw4 hf4 => ?_)
                  show gX l E _ 129 [some (ga 0), some (gi ba), some (gi se), some (ga B), some (gi b), some (ga C), some (gi i)] [] (K, R, V4) _ _
                  refine gX_iinc dX11_hearWitnesses_129 rfl (show (6 : Nat) < 7 from by decide) ⟨by omega, by omega⟩ (ls2 := [some (ga 0), some (gi ba), some (gi se), some (ga B), some (gi b), some (ga C), some (gi (i + 1))]) rfl ?_
                  refine gX_goto (tgt := 86) dX11_hearWitnesses_132 (by decide) ?_
                  have ek : q1.1.length - i.toNat = (q1.1.length - (i + 1).toNat) + 1 := by omega
                  have e1 : hwI q2.1 (alg q1.1 q2.1 0) b (q1.1.length - i.toNat) i rd = hwI q2.1 (alg q1.1 q2.1 0) b (q1.1.length - (i + 1).toNat) (i + 1) (lput rd (b * 40 + i) (lat q2.1 (lat (alg q1.1 q2.1 0) i))) := by rw [ek]; rfl
                  rw [e1] at hk2
                  exact ih (i + 1) _ V4 _ _ (by omega) (by omega) (by omega) (hp3.fr hf4 (by omega)) hw4 (hf3.trans (hf4.wide (by omega) (by omega))) hk2
            refine lq (q1.1.length + 1) 0 rd V2 _ _ (by omega) (by omega) (by omega) hp2 (hw1.kept (hf2 _ (by omega)) (hf2 _ (by omega)) (hf2 _ (by omega))) (hf1.trans (hf2.wide (by omega) (by omega))) (fun V5 i2 bc bs hw5 hf5 => ?_)
            refine gX_iinc dX11_hearWitnesses_135 rfl (show (4 : Nat) < 7 from by decide) ⟨by omega, by omega⟩ (ls2 := [some (ga 0), some (gi ba), some (gi se), some (ga B), some (gi (b + 1)), some (ga C), i2]) rfl ?_
            refine gX_goto (tgt := 30) dX11_hearWitnesses_138 (by decide) ?_
            have ek : S.1.length - b.toNat = (S.1.length - (b + 1).toNat) + 1 := by omega
            have e1 : hwF S ba se (S.1.length - b.toNat) b rd = hwF S ba se (S.1.length - (b + 1).toNat) (b + 1) (hwI q2.1 (alg q1.1 q2.1 0) b q1.1.length 0 rd) := by
              rw [ek]
              show hwF S ba se _ _ (if _ then _ else _) = _
              rw [if_pos hor, show gbX S b = q2.1 by unfold gbX; rw [eq2], ex1]
            rw [e1] at hq2
            exact ih (b + 1) _ _ _ V5 _ _ (by omega) (by omega) (by omega) hw5 hf5 hq2
  refine gX_aloadn dX11_hearWitnesses_0 rfl ?_
  refine gX_iloadn dX11_hearWitnesses_1 rfl ?_
  refine gX_virt (J := iX11_bookAt) (av := [gi ba]) (a := 0) (st := []) dX11_hearWitnesses_2 lkX11_142 kX11_bookAt vX11_bookAt (gFit_m (by decide)) hO rfl rfl (Nat.le_of_ble_eq_true rfl) (Nat.zero_le _) (Nat.zero_le _) rfl ?_
  refine c_bookAt hG0 hS hr1 eB ?_
  show gX l E _ 5 [some (ga 0), some (gi ba), some (gi se), none, none, none, none] [ga B] (K, R, V) _ _
  refine gX_astoren dX11_hearWitnesses_5 (show (3 : Nat) < 7 from by decide) (ls2 := [some (ga 0), some (gi ba), some (gi se), some (ga B), none, none, none]) rfl ?_
  refine gX_aloadn dX11_hearWitnesses_6 rfl ?_
  refine gX_ifnonnull (tgt := 11) dX11_hearWitnesses_7 (by decide) (fun u1 => ?_) (fun u1 => absurd (kd_pos hB.1) (by omega))
  refine gX_aloadn dX11_hearWitnesses_11 rfl ?_
  refine gX_gR 7 dX11_hearWitnesses_12 fdX11_57 rfl rfl hO r7 ?_
  refine gX_iloadn dX11_hearWitnesses_15 rfl ?_
  refine gX_iloadn dX11_hearWitnesses_16 rfl ?_
  refine gX_aloadn dX11_hearWitnesses_17 rfl ?_
  refine gX_gR 0 dX11_hearWitnesses_18 fdX11_164 rfl rfl hB.1 hB.2.1 ?_
  refine gX_virt (J := iX6_length) (av := []) (a := (B + 1)) (st := [gi se, gi ba, ga W]) dX11_hearWitnesses_21 lkX11_88 kX6_length vX6_length (gFit_m (by decide)) hB.2.2.2.2.2.2.1.1 rfl rfl (Nat.le_of_ble_eq_true rfl) (Nat.zero_le _) (Nat.zero_le _) rfl ?_
  refine q_Row_length hB.2.2.2.2.2.2.1 hb1.1 ?_
  show gX l E _ 24 [some (ga 0), some (gi ba), some (gi se), some (ga B), none, none, none] [gi q1.1.length, gi se, gi ba, ga W] (K, R, V) _ _
  refine gX_virt (J := iX10_begin) (av := [gi ba, gi se, gi q1.1.length]) (a := W) (st := []) dX11_hearWitnesses_24 lkX11_309 kX10_begin vX10_begin (gFit_m (by decide)) hWt.1 rfl rfl (Nat.le_of_ble_eq_true rfl) (Nat.zero_le _) (Nat.zero_le _) rfl ?_
  refine c_wtBegin hWt (fun V1 hw1 hf1 => ?_)
  show gX l E _ 27 [some (ga 0), some (gi ba), some (gi se), some (ga B), none, none, none] [] (K, R, V1) _ _
  refine gX_iconst dX11_hearWitnesses_27 ⟨by decide, by decide⟩ ?_
  refine gX_istore dX11_hearWitnesses_28 (show (4 : Nat) < 7 from by decide) (ls2 := [some (ga 0), some (gi ba), some (gi se), some (ga B), some (gi 0), none, none]) rfl ?_
  rw [ex1] at hQ
  exact lp 11 0 _ none none V1 _ _ (by omega) (by omega) (by omega) hw1 (hf1.wide (by omega) (by omega)) hQ
end GB3
