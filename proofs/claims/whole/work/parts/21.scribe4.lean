/-! Scribe: glosses that slip in, that are moved. Written by wip/whole/tools/mk_scribe4.py. -/
def shQ (pl by' : Int) (q : gG) : gG := if onT q = 1 ∧ pl ≤ q.2.2.1 then shG q by' else q
def stQ (a b : Int) (q : gG) : gG := if onT q = 1 ∧ q.2.2.1 = a then spG q q.2.2.1 b else q
/-- the first i are changed -/
def pmap (f : gG → gG) (i : Nat) (gs : List gG) : List gG := (gs.take i).map f ++ gs.drop i
theorem pmap_len (f : gG → gG) (i : Nat) (gs : List gG) : (pmap f i gs).length = gs.length := by
  unfold pmap
  rw [List.length_append, List.length_map, List.length_take, List.length_drop]
  omega
theorem pmap_0 (f : gG → gG) (gs : List gG) : pmap f 0 gs = gs := rfl
theorem pmap_n (f : gG → gG) (gs : List gG) : pmap f gs.length gs = gs.map f := by
  unfold pmap
  rw [List.take_length, List.drop_length, List.append_nil]
theorem pmap_at {f : gG → gG} {i j : Nat} {gs : List gG} (hi : i ≤ gs.length) : (pmap f i gs)[j]? = if j < i then (gs[j]?).map f else gs[j]? := by
  unfold pmap
  have hl : ((gs.take i).map f).length = i := by rw [List.length_map, List.length_take]; omega
  by_cases c : j < i
  · rw [if_pos c, List.getElem?_append_left (by omega), List.getElem?_map, List.getElem?_take_of_lt c]
  · rw [if_neg c, List.getElem?_append_right (by omega), hl, List.getElem?_drop]
    congr 1
    omega
theorem pmap_gq {f : gG → gG} {i : Int} {gs : List gG} (h0 : 0 ≤ i) (hi : i < gs.length) : gq (pmap f i.toNat gs) i = gq gs i := by
  unfold gq
  rw [List.getD_eq_getElem?_getD, List.getD_eq_getElem?_getD, pmap_at (by omega), if_neg (by omega)]
theorem pmap_s {f : gG → gG} {i : Int} {gs : List gG} (h0 : 0 ≤ i) (hi : i < gs.length) : (pmap f i.toNat gs).set i.toNat (f (gq gs i)) = pmap f (i + 1).toNat gs := by
  have hg : gs[i.toNat]? = some gs[i.toNat] := List.getElem?_eq_getElem (by omega)
  have e := gq_of hg
  rw [Int.toNat_of_nonneg h0] at e
  apply List.ext_getElem?
  intro j
  rw [pmap_at (by omega)]
  by_cases c : j = i.toNat
  · subst c
    rw [List.getElem?_set_self (by rw [pmap_len]; omega), if_pos (by omega), hg, e]
    rfl
  · rw [List.getElem?_set_ne (fun z => c z.symm), pmap_at (by omega)]
    by_cases c2 : j < i.toNat
    · rw [if_pos c2, if_pos (by omega)]
    · rw [if_neg c2, if_neg (by omega)]
theorem pmap_i {f : gG → gG} {i : Int} {gs : List gG} (h0 : 0 ≤ i) (hi : i < gs.length) (hf : f (gq gs i) = gq gs i) : pmap f (i + 1).toNat gs = pmap f i.toNat gs := by
  rw [← pmap_s h0 hi, hf]
  apply List.ext_getElem?
  intro j
  by_cases c : j = i.toNat
  · subst c
    have hg : gs[i.toNat]? = some gs[i.toNat] := List.getElem?_eq_getElem (by omega)
    have e := gq_of hg
    rw [Int.toNat_of_nonneg h0] at e
    rw [List.getElem?_set_self (by rw [pmap_len]; omega), pmap_at (by omega), if_neg (by omega), e, hg]
  · rw [List.getElem?_set_ne (fun z => c z.symm)]
theorem gq_map {f : gG → gG} {gs : List gG} {g : Int} (h0 : 0 ≤ g) (h1 : g < gs.length) : gq (gs.map f) g = f (gq gs g) := by
  have hg : gs[g.toNat]? = some gs[g.toNat] := List.getElem?_eq_getElem (by omega)
  have e := gq_of hg
  have hm : (gs.map f)[g.toNat]? = some (f gs[g.toNat]) := by rw [List.getElem?_map, hg]; rfl
  have e2 := gq_of hm
  rw [Int.toNat_of_nonneg h0] at e e2
  rw [e, e2]
theorem glIs.last {V : Int → Int → Int} {g y : Int} {q : gG} (hv : glIs V g q) : glIs (gup V g 4 y) g (spG q q.2.2.1 y) := by
  obtain ⟨a1, a2, a3, a4, a5, a6, a7⟩ := hv
  exact ⟨by rw [gup_o (Or.inr (by omega))]; exact a1, by rw [gup_o (Or.inr (by omega))]; exact a2, by rw [gup_o (Or.inr (by omega))]; exact a3, gup_s, by rw [gup_o (Or.inr (by omega))]; exact a5, a6, a7.kept (gup_ne (by omega)) (gup_ne (by omega))⟩
section SCRIBE4
variable {l : Launch} {E : gE} {d : Nat} {K : List gK} {R V : Int → Int → Int} {B H g : Int} {Q : gQ} {tx : List Int} {gs : List gG} {q : gG} {ex sc rc wy : Int} {ch tk fr to fe ea : List Int}
set_option maxRecDepth 4000 in
theorem c_shiftSpans {x b : Int} (hB : bkK K R B) (hb : bkIs V B tx gs) (hg1 : gBd gs 1000) (hb0 : -1000 ≤ b ∧ b ≤ 1000) (hQ : ∀ V', bkIs V' B tx (gs.map (shQ x b)) → bFr V V' B → Q none (K, R, V')) : gC l E (d + 2) iX7_shiftSpans [ga B, gi x, gi b] (K, R, V) Q := by
  refine gC_of kX7_shiftSpans (ls := [some (ga B), some (gi x), some (gi b), none, none]) rfl (Nat.le_of_ble_eq_true rfl) ?_
  have h20 := hb.2.2.1
  have lp : ∀ (jj : Nat) (i : Int) (j4 : Option gV) (V1 : Int → Int → Int) (bc bs : Nat), (gs.length : Int) - i < (jj : Int) → 0 ≤ i → i ≤ gs.length → bkIs V1 B tx (pmap (shQ x b) i.toNat gs) → bFr V V1 B → gX l E (gFm E (d + 2) iX7_shiftSpans Q) 2 [some (ga B), some (gi x), some (gi b), some (gi i), j4] [] (K, R, V1) bc bs := by
    intro jj
    induction jj with
    | zero =>
      intro i j4 V1 bc bs hj q0 q1 hb1 hf1
      exfalso; omega
    | succ jj ih =>
      intro i j4 V1 bc bs hj q0 q1 hb1 hf1
      have hcn := hb1.2.1
      rw [pmap_len] at hcn
      refine gX_iloadn dX7_shiftSpans_2 rfl ?_
      refine gX_aloadn dX7_shiftSpans_3 rfl ?_
      refine gX_gI 5 dX7_shiftSpans_4 fdX7_84 rfl (Or.inl rfl) hB.1 ?_
      refine gX_icmpge (tgt := 51) dX7_shiftSpans_7 (by decide) (fun w1 => ?_) (fun w1 => ?_)
      · refine gX_vret dX7_shiftSpans_51 rfl ?_
        have ei : i.toNat = gs.length := by omega
        rw [ei, pmap_n] at hb1
        exact hQ V1 hb1 hf1
      · have hv := hb1.gl q0 (by rw [pmap_len]; omega)
        rw [pmap_gq q0 (by omega)] at hv
        refine gX_aloadn dX7_shiftSpans_10 rfl ?_
        refine gX_iloadn dX7_shiftSpans_11 rfl ?_
        refine gX_virt (J := iX1_glossAt) (av := [gi i]) (a := B) (st := []) dX7_shiftSpans_12 lkX7_116 kX1_glossAt vX1_glossAt (gFit_m (by decide)) hB.1 rfl rfl (Nat.le_of_ble_eq_true rfl) (Nat.zero_le _) (Nat.zero_le _) rfl ?_
        refine c_glossAt hB hb1 q0 (by rw [pmap_len]; omega) ?_
        show gX l E _ 15 [some (ga B), some (gi x), some (gi b), some (gi i), j4] [ga (B + 10 + 3 * i)] (K, R, V1) _ _
        refine gX_astore dX7_shiftSpans_15 (show (4 : Nat) < 5 from by decide) (ls2 := [some (ga B), some (gi x), some (gi b), some (gi i), some (ga (B + 10 + 3 * i))]) rfl ?_
        refine gX_aload dX7_shiftSpans_17 rfl ?_
        refine gX_ifnull (tgt := 45) dX7_shiftSpans_19 (by decide) (fun w2 => absurd (kd_pos (hB.2.2.2.2.2.2.2.2.2.2.2 i q0 (by omega)).2.1) (by omega)) (fun w2 => ?_)
        refine gX_aload dX7_shiftSpans_22 rfl ?_
        refine gX_virt (J := iX3_isOnText) (av := []) (a := (B + 10 + 3 * i)) (st := []) dX7_shiftSpans_24 lkX7_120 kX3_isOnText vX3_isOnText (gFit_m (by decide)) (hB.2.2.2.2.2.2.2.2.2.2.2 i q0 (by omega)).2.1 rfl rfl (Nat.le_of_ble_eq_true rfl) (Nat.zero_le _) (Nat.zero_le _) rfl ?_
        refine c_isOnText (hB.2.2.2.2.2.2.2.2.2.2.2 i q0 (by omega)).2 hv ?_
        show gX l E _ 27 [some (ga B), some (gi x), some (gi b), some (gi i), some (ga (B + 10 + 3 * i))] [gi (onT (gq gs i))] (K, R, V1) _ _
        have o1 := onT_01 (gq gs i)
        have gb := hg1 _ (gq_mem (gs := gs) (g := i) q0 (by omega))
        refine gX_ifeq (tgt := 45) dX7_shiftSpans_27 (by decide) (fun w3 => ?_) (fun w3 => ?_)
        · refine gX_iinc dX7_shiftSpans_45 rfl (show (3 : Nat) < 5 from by decide) ⟨by omega, by omega⟩ (ls2 := [some (ga B), some (gi x), some (gi b), some (gi (i + 1)), some (ga (B + 10 + 3 * i))]) rfl ?_
          refine gX_goto (tgt := 2) dX7_shiftSpans_48 (by decide) ?_
          have ef : shQ x b (gq gs i) = gq gs i := by unfold shQ; rw [if_neg (by omega)]
          have ep := pmap_i (f := shQ x b) q0 (by omega) ef
          refine ih (i + 1) _ V1 _ _ (by omega) (by omega) (by omega) ?_ hf1
          rw [ep]
          exact hb1
        · refine gX_aload dX7_shiftSpans_30 rfl ?_
          refine gX_gI 3 dX7_shiftSpans_32 fdX7_126 rfl (Or.inl rfl) (hB.2.2.2.2.2.2.2.2.2.2.2 i q0 (by omega)).2.1 ?_
          rw [hv.2.2.1]
          refine gX_iloadn dX7_shiftSpans_35 rfl ?_
          refine gX_icmplt (tgt := 45) dX7_shiftSpans_36 (by decide) (fun w4 => ?_) (fun w4 => ?_)
          · refine gX_iinc dX7_shiftSpans_45 rfl (show (3 : Nat) < 5 from by decide) ⟨by omega, by omega⟩ (ls2 := [some (ga B), some (gi x), some (gi b), some (gi (i + 1)), some (ga (B + 10 + 3 * i))]) rfl ?_
            refine gX_goto (tgt := 2) dX7_shiftSpans_48 (by decide) ?_
            have ef : shQ x b (gq gs i) = gq gs i := by unfold shQ; rw [if_neg (by omega)]
            have ep := pmap_i (f := shQ x b) q0 (by omega) ef
            refine ih (i + 1) _ V1 _ _ (by omega) (by omega) (by omega) ?_ hf1
            rw [ep]
            exact hb1
          · refine gX_aload dX7_shiftSpans_39 rfl ?_
            refine gX_iloadn dX7_shiftSpans_41 rfl ?_
            refine gX_virt (J := iX3_shift) (av := [gi b]) (a := (B + 10 + 3 * i)) (st := []) dX7_shiftSpans_42 lkX7_169 kX3_shift vX3_shift (gFit_m (by decide)) (hB.2.2.2.2.2.2.2.2.2.2.2 i q0 (by omega)).2.1 rfl rfl (Nat.le_of_ble_eq_true rfl) (Nat.zero_le _) (Nat.zero_le _) rfl ?_
            refine c_shift (hB.2.2.2.2.2.2.2.2.2.2.2 i q0 (by omega)).2 hv ⟨by omega, by omega⟩ ⟨by omega, by omega⟩ (fun V2 hv2 hf2 => ?_)
            show gX l E _ 45 [some (ga B), some (gi x), some (gi b), some (gi i), some (ga (B + 10 + 3 * i))] [] (K, R, V2) _ _
            refine gX_iinc dX7_shiftSpans_45 rfl (show (3 : Nat) < 5 from by decide) ⟨by omega, by omega⟩ (ls2 := [some (ga B), some (gi x), some (gi b), some (gi (i + 1)), some (ga (B + 10 + 3 * i))]) rfl ?_
            refine gX_goto (tgt := 2) dX7_shiftSpans_48 (by decide) ?_
            have ef : shQ x b (gq gs i) = shG (gq gs i) b := by unfold shQ; rw [if_pos (by omega)]
            have ep := pmap_s (f := shQ x b) (gs := gs) q0 (by omega)
            rw [ef] at ep
            refine ih (i + 1) _ _ _ _ (by omega) (by omega) (by omega) ?_ (hf1.trans (fun a ha => hf2 a (by omega)))
            rw [← ep]
            refine hb1.setg q0 (by rw [pmap_len]; omega) hv2 (fun a g1 g2 g3 => hf2 a (by omega))
  refine gX_iconst dX7_shiftSpans_0 ⟨by decide, by decide⟩ ?_
  refine gX_istoren dX7_shiftSpans_1 (show (3 : Nat) < 5 from by decide) (ls2 := [some (ga B), some (gi x), some (gi b), some (gi 0), none]) rfl ?_
  exact lp (gs.length + 1) 0 none V _ _ (by omega) (by omega) (by omega) hb (fun a _ => rfl)
set_option maxRecDepth 4000 in
theorem c_stretchSpan {a b : Int} (hB : bkK K R B) (hb : bkIs V B tx gs) (hg1 : gBd gs 1000)  (hQ : ∀ V', bkIs V' B tx (gs.map (stQ a b)) → bFr V V' B → Q none (K, R, V')) : gC l E (d + 2) iX7_stretchSpan [ga B, gi a, gi b] (K, R, V) Q := by
  refine gC_of kX7_stretchSpan (ls := [some (ga B), some (gi a), some (gi b), none, none]) rfl (Nat.le_of_ble_eq_true rfl) ?_
  have h20 := hb.2.2.1
  have lp : ∀ (jj : Nat) (i : Int) (j4 : Option gV) (V1 : Int → Int → Int) (bc bs : Nat), (gs.length : Int) - i < (jj : Int) → 0 ≤ i → i ≤ gs.length → bkIs V1 B tx (pmap (stQ a b) i.toNat gs) → bFr V V1 B → gX l E (gFm E (d + 2) iX7_stretchSpan Q) 2 [some (ga B), some (gi a), some (gi b), some (gi i), j4] [] (K, R, V1) bc bs := by
    intro jj
    induction jj with
    | zero =>
      intro i j4 V1 bc bs hj q0 q1 hb1 hf1
      exfalso; omega
    | succ jj ih =>
      intro i j4 V1 bc bs hj q0 q1 hb1 hf1
      have hcn := hb1.2.1
      rw [pmap_len] at hcn
      refine gX_iloadn dX7_stretchSpan_2 rfl ?_
      refine gX_aloadn dX7_stretchSpan_3 rfl ?_
      refine gX_gI 5 dX7_stretchSpan_4 fdX7_84 rfl (Or.inl rfl) hB.1 ?_
      refine gX_icmpge (tgt := 51) dX7_stretchSpan_7 (by decide) (fun w1 => ?_) (fun w1 => ?_)
      · refine gX_vret dX7_stretchSpan_51 rfl ?_
        have ei : i.toNat = gs.length := by omega
        rw [ei, pmap_n] at hb1
        exact hQ V1 hb1 hf1
      · have hv := hb1.gl q0 (by rw [pmap_len]; omega)
        rw [pmap_gq q0 (by omega)] at hv
        refine gX_aloadn dX7_stretchSpan_10 rfl ?_
        refine gX_iloadn dX7_stretchSpan_11 rfl ?_
        refine gX_virt (J := iX1_glossAt) (av := [gi i]) (a := B) (st := []) dX7_stretchSpan_12 lkX7_116 kX1_glossAt vX1_glossAt (gFit_m (by decide)) hB.1 rfl rfl (Nat.le_of_ble_eq_true rfl) (Nat.zero_le _) (Nat.zero_le _) rfl ?_
        refine c_glossAt hB hb1 q0 (by rw [pmap_len]; omega) ?_
        show gX l E _ 15 [some (ga B), some (gi a), some (gi b), some (gi i), j4] [ga (B + 10 + 3 * i)] (K, R, V1) _ _
        refine gX_astore dX7_stretchSpan_15 (show (4 : Nat) < 5 from by decide) (ls2 := [some (ga B), some (gi a), some (gi b), some (gi i), some (ga (B + 10 + 3 * i))]) rfl ?_
        refine gX_aload dX7_stretchSpan_17 rfl ?_
        refine gX_ifnull (tgt := 45) dX7_stretchSpan_19 (by decide) (fun w2 => absurd (kd_pos (hB.2.2.2.2.2.2.2.2.2.2.2 i q0 (by omega)).2.1) (by omega)) (fun w2 => ?_)
        refine gX_aload dX7_stretchSpan_22 rfl ?_
        refine gX_virt (J := iX3_isOnText) (av := []) (a := (B + 10 + 3 * i)) (st := []) dX7_stretchSpan_24 lkX7_120 kX3_isOnText vX3_isOnText (gFit_m (by decide)) (hB.2.2.2.2.2.2.2.2.2.2.2 i q0 (by omega)).2.1 rfl rfl (Nat.le_of_ble_eq_true rfl) (Nat.zero_le _) (Nat.zero_le _) rfl ?_
        refine c_isOnText (hB.2.2.2.2.2.2.2.2.2.2.2 i q0 (by omega)).2 hv ?_
        show gX l E _ 27 [some (ga B), some (gi a), some (gi b), some (gi i), some (ga (B + 10 + 3 * i))] [gi (onT (gq gs i))] (K, R, V1) _ _
        have o1 := onT_01 (gq gs i)
        have gb := hg1 _ (gq_mem (gs := gs) (g := i) q0 (by omega))
        refine gX_ifeq (tgt := 45) dX7_stretchSpan_27 (by decide) (fun w3 => ?_) (fun w3 => ?_)
        · refine gX_iinc dX7_stretchSpan_45 rfl (show (3 : Nat) < 5 from by decide) ⟨by omega, by omega⟩ (ls2 := [some (ga B), some (gi a), some (gi b), some (gi (i + 1)), some (ga (B + 10 + 3 * i))]) rfl ?_
          refine gX_goto (tgt := 2) dX7_stretchSpan_48 (by decide) ?_
          have ef : stQ a b (gq gs i) = gq gs i := by unfold stQ; rw [if_neg (by omega)]
          have ep := pmap_i (f := stQ a b) q0 (by omega) ef
          refine ih (i + 1) _ V1 _ _ (by omega) (by omega) (by omega) ?_ hf1
          rw [ep]
          exact hb1
        · refine gX_aload dX7_stretchSpan_30 rfl ?_
          refine gX_gI 3 dX7_stretchSpan_32 fdX7_126 rfl (Or.inl rfl) (hB.2.2.2.2.2.2.2.2.2.2.2 i q0 (by omega)).2.1 ?_
          rw [hv.2.2.1]
          refine gX_iloadn dX7_stretchSpan_35 rfl ?_
          refine gX_icmpne (tgt := 45) dX7_stretchSpan_36 (by decide) (fun w4 => ?_) (fun w4 => ?_)
          · refine gX_iinc dX7_stretchSpan_45 rfl (show (3 : Nat) < 5 from by decide) ⟨by omega, by omega⟩ (ls2 := [some (ga B), some (gi a), some (gi b), some (gi (i + 1)), some (ga (B + 10 + 3 * i))]) rfl ?_
            refine gX_goto (tgt := 2) dX7_stretchSpan_48 (by decide) ?_
            have ef : stQ a b (gq gs i) = gq gs i := by unfold stQ; rw [if_neg (by omega)]
            have ep := pmap_i (f := stQ a b) q0 (by omega) ef
            refine ih (i + 1) _ V1 _ _ (by omega) (by omega) (by omega) ?_ hf1
            rw [ep]
            exact hb1
          · refine gX_aload dX7_stretchSpan_39 rfl ?_
            refine gX_iloadn dX7_stretchSpan_41 rfl ?_
            refine gX_pI 4 dX7_stretchSpan_42 fdX7_133 fpX7_133 rfl (Or.inl rfl) (hB.2.2.2.2.2.2.2.2.2.2.2 i q0 (by omega)).2.1 ?_
            have hv2 : glIs (gup V1 (B + 10 + 3 * i) 4 b) (B + 10 + 3 * i) (spG (gq gs i) (gq gs i).2.2.1 b) := hv.last
            have hf2 : ∀ a, a ≠ (B + 10 + 3 * i) → (gup V1 (B + 10 + 3 * i) 4 b) a = V1 a := fun a g9 => gup_ne g9
            generalize gup V1 (B + 10 + 3 * i) 4 b = V2 at hv2 hf2 ⊢
            refine gX_iinc dX7_stretchSpan_45 rfl (show (3 : Nat) < 5 from by decide) ⟨by omega, by omega⟩ (ls2 := [some (ga B), some (gi a), some (gi b), some (gi (i + 1)), some (ga (B + 10 + 3 * i))]) rfl ?_
            refine gX_goto (tgt := 2) dX7_stretchSpan_48 (by decide) ?_
            have ef : stQ a b (gq gs i) = spG (gq gs i) (gq gs i).2.2.1 b := by unfold stQ; rw [if_pos (by omega)]
            have ep := pmap_s (f := stQ a b) (gs := gs) q0 (by omega)
            rw [ef] at ep
            refine ih (i + 1) _ _ _ _ (by omega) (by omega) (by omega) ?_ (hf1.trans (fun a ha => hf2 a (by omega)))
            rw [← ep]
            refine hb1.setg q0 (by rw [pmap_len]; omega) hv2 (fun a g1 g2 g3 => hf2 a (by omega))
  refine gX_iconst dX7_stretchSpan_0 ⟨by decide, by decide⟩ ?_
  refine gX_istoren dX7_stretchSpan_1 (show (3 : Nat) < 5 from by decide) (ls2 := [some (ga B), some (gi a), some (gi b), some (gi 0), none]) rfl ?_
  exact lp (gs.length + 1) 0 none V _ _ (by omega) (by omega) (by omega) hb (fun a _ => rfl)
/-- a gloss's row comes into the text: 0 ahead of its span, 1 behind it, else in the place of its lemma -/
def slO (wy : Int) (tx : List Int) (gs : List gG) (q : gG) : List Int × List gG :=
  if wy = 0 then (tx.take q.2.2.1.toNat ++ q.2.2.2.2.2 ++ tx.drop q.2.2.1.toNat, gs.map (shQ q.2.2.1 q.2.2.2.2.2.length))
  else if wy = 1 then (tx.take (q.2.2.2.1 + 1).toNat ++ q.2.2.2.2.2 ++ tx.drop (q.2.2.2.1 + 1).toNat, gs.map (shQ (q.2.2.2.1 + 1) q.2.2.2.2.2.length))
  else (tx.take q.2.2.1.toNat ++ q.2.2.2.2.2 ++ tx.drop (q.2.2.2.1 + 1).toNat, (gs.map (shQ (q.2.2.2.1 + 1) (q.2.2.2.2.2.length - lml q))).map (stQ q.2.2.1 (q.2.2.1 + q.2.2.2.2.2.length - 1)))
theorem shQ_row (a b : Int) (q : gG) : (shQ a b q).2.2.2.2.2 = q.2.2.2.2.2 := by unfold shQ; split <;> rfl
theorem stQ_row (a b : Int) (q : gG) : (stQ a b q).2.2.2.2.2 = q.2.2.2.2.2 := by unfold stQ; split <;> rfl
theorem gBd.map {gs : List gG} {c c2 : Int} {f : gG → gG} (h : gBd gs c) (hf : ∀ q, (-c ≤ q.2.2.1 ∧ q.2.2.1 ≤ c ∧ -c ≤ q.2.2.2.1 ∧ q.2.2.2.1 ≤ c) → (-c2 ≤ (f q).2.2.1 ∧ (f q).2.2.1 ≤ c2 ∧ -c2 ≤ (f q).2.2.2.1 ∧ (f q).2.2.2.1 ≤ c2)) : gBd (gs.map f) c2 := by
  intro x hx
  obtain ⟨q, hq, rfl⟩ := List.mem_map.mp hx
  exact hf q (h q hq)
theorem shQ_bd {a b c d : Int} (hb : -d ≤ b ∧ b ≤ d) (hd : 0 ≤ d) (q : gG) (h : -c ≤ q.2.2.1 ∧ q.2.2.1 ≤ c ∧ -c ≤ q.2.2.2.1 ∧ q.2.2.2.1 ≤ c) : -(c + d) ≤ (shQ a b q).2.2.1 ∧ (shQ a b q).2.2.1 ≤ c + d ∧ -(c + d) ≤ (shQ a b q).2.2.2.1 ∧ (shQ a b q).2.2.2.1 ≤ c + d := by
  unfold shQ
  split
  · show -(c + d) ≤ q.2.2.1 + b ∧ q.2.2.1 + b ≤ c + d ∧ -(c + d) ≤ q.2.2.2.1 + b ∧ q.2.2.2.1 + b ≤ c + d
    omega
  · omega
set_option maxRecDepth 4000 in
theorem c_slipOne (hB : bkK K R B) (hb : bkIs V B tx gs) (g0 : 0 ≤ g) (g1 : g < gs.length) (hg : gBd gs 900) (hg1 : gBd gs 1000) (hw : 0 ≤ wy ∧ wy ≤ 2) (hs0 : 0 ≤ (gq gs g).2.2.1) (hs1 : (gq gs g).2.2.1 ≤ (gq gs g).2.2.2.1) (hs2 : (gq gs g).2.2.2.1 < tx.length) (hs3 : (tx.length : Int) - (if wy = 2 then lml (gq gs g) else 0) + (gq gs g).2.2.2.2.2.length ≤ 40) (hQ : ∀ V', bkIs V' B (slO wy tx gs (gq gs g)).1 (slO wy tx gs (gq gs g)).2 → bFr V V' B → Q none (K, R, V')) : gC l E (d + 3) iX7_slipOne [ga B, ga (B + 10 + 3 * g), gi wy] (K, R, V) Q := by
  refine gC_of kX7_slipOne (ls := [some (ga B), some (ga (B + 10 + 3 * g)), some (gi wy), none, none, none]) rfl (Nat.le_of_ble_eq_true rfl) ?_
  have h20 := hb.2.2.1
  have hxl := hb.1.2.1
  have hv := hb.gl g0 g1
  have gb := hg1 _ (gq_mem (gs := gs) (g := g) g0 g1)
  have hrl := hv.2.2.2.2.2.2.2.1
  have hll : lml (gq gs g) = (gq gs g).2.2.2.1 - (gq gs g).2.2.1 + 1 := rfl
  have hr1 : ∀ {V1 : Int → Int → Int} {x b : Int}, bkIs V1 B tx (gs.map (shQ x b)) → rIs V1 (B + 10 + 3 * g + 1) 8 (gq gs g).2.2.2.2.2 := fun h9 => by have h8 := (h9.gl (g := g) g0 (by rw [List.length_map]; exact g1)).2.2.2.2.2.2; rw [gq_map g0 g1, shQ_row] at h8; exact h8
  have hr2 : ∀ {V1 : Int → Int → Int} {x b c e : Int}, bkIs V1 B tx ((gs.map (shQ x b)).map (stQ c e)) → rIs V1 (B + 10 + 3 * g + 1) 8 (gq gs g).2.2.2.2.2 := fun h9 => by have h8 := (h9.gl (g := g) g0 (by rw [List.length_map, List.length_map]; exact g1)).2.2.2.2.2.2; rw [gq_map g0 (by rw [List.length_map]; exact g1), gq_map g0 g1, stQ_row, shQ_row] at h8; exact h8
  have hg2 : ∀ {x : Int} (b : Int), (-50 ≤ b ∧ b ≤ 50) → gBd (gs.map (shQ x b)) 1000 := fun b h9 => (hg.map (c2 := 950) (fun q hq => shQ_bd (c := 900) (d := 50) h9 (by omega) q hq)).up (by omega)
  refine gX_aloadn dX7_slipOne_0 rfl ?_
  refine gX_gI 3 dX7_slipOne_1 fdX7_126 rfl (Or.inl rfl) (hB.2.2.2.2.2.2.2.2.2.2.2 g g0 (by omega)).2.1 ?_
  rw [hv.2.2.1]
  refine gX_istoren dX7_slipOne_4 (show (3 : Nat) < 6 from by decide) (ls2 := [some (ga B), some (ga (B + 10 + 3 * g)), some (gi wy), some (gi ((gq gs g).2.2.1)), none, none]) rfl ?_
  refine gX_aloadn dX7_slipOne_5 rfl ?_
  refine gX_gI 4 dX7_slipOne_6 fdX7_133 rfl (Or.inl rfl) (hB.2.2.2.2.2.2.2.2.2.2.2 g g0 (by omega)).2.1 ?_
  rw [hv.2.2.2.1]
  refine gX_istore dX7_slipOne_9 (show (4 : Nat) < 6 from by decide) (ls2 := [some (ga B), some (ga (B + 10 + 3 * g)), some (gi wy), some (gi ((gq gs g).2.2.1)), some (gi ((gq gs g).2.2.2.1)), none]) rfl ?_
  refine gX_aloadn dX7_slipOne_11 rfl ?_
  refine gX_gR 0 dX7_slipOne_12 fdX7_152 rfl rfl (hB.2.2.2.2.2.2.2.2.2.2.2 g g0 (by omega)).2.1 (hB.2.2.2.2.2.2.2.2.2.2.2 g g0 (by omega)).2.2.1 ?_
  refine gX_virt (J := iX6_length) (av := []) (a := (B + 10 + 3 * g + 1)) (st := []) dX7_slipOne_15 lkX7_70 kX6_length vX6_length (gFit_m (by decide)) (hB.2.2.2.2.2.2.2.2.2.2.2 g g0 (by omega)).2.2.2.1 rfl rfl (Nat.le_of_ble_eq_true rfl) (Nat.zero_le _) (Nat.zero_le _) rfl ?_
  refine q_Row_length (hB.2.2.2.2.2.2.2.2.2.2.2 g g0 (by omega)).2.2.2 hv.2.2.2.2.2.2 ?_
  show gX l E _ 18 [some (ga B), some (ga (B + 10 + 3 * g)), some (gi wy), some (gi ((gq gs g).2.2.1)), some (gi ((gq gs g).2.2.2.1)), none] [gi ((gq gs g).2.2.2.2.2.length)] (K, R, V) _ _
  refine gX_istore dX7_slipOne_18 (show (5 : Nat) < 6 from by decide) (ls2 := [some (ga B), some (ga (B + 10 + 3 * g)), some (gi wy), some (gi ((gq gs g).2.2.1)), some (gi ((gq gs g).2.2.2.1)), some (gi ((gq gs g).2.2.2.2.2.length))]) rfl ?_
  refine gX_iloadn dX7_slipOne_20 rfl ?_
  by_cases hw0 : wy = 0
  · subst hw0
    rw [if_neg (by omega)] at hs3
    refine gX_lookup (tgt := 48) dX7_slipOne_21 (by decide) rfl (by decide) ?_
    refine gX_aloadn dX7_slipOne_48 rfl ?_
    refine gX_iloadn dX7_slipOne_49 rfl ?_
    refine gX_iload dX7_slipOne_50 rfl ?_
    refine gX_stat (J := iX7_shiftSpans) (av := [ga B, gi ((gq gs g).2.2.1), gi ((gq gs g).2.2.2.2.2.length)]) (st := []) dX7_slipOne_52 lkX7_159 kX7_shiftSpans sX7_shiftSpans (gFit_m (by decide)) rfl (Nat.le_of_ble_eq_true rfl) (Nat.zero_le _) (Nat.zero_le _) rfl ?_
    refine c_shiftSpans hB hb hg1 (by omega) (fun V1 hb1 hf1 => ?_)
    show gX l E _ 55 [some (ga B), some (ga (B + 10 + 3 * g)), some (gi 0), some (gi ((gq gs g).2.2.1)), some (gi ((gq gs g).2.2.2.1)), some (gi ((gq gs g).2.2.2.2.2.length))] [] (K, R, V1) _ _
    refine gX_aloadn dX7_slipOne_55 rfl ?_
    refine gX_gR 0 dX7_slipOne_56 fdX7_77 rfl rfl hB.1 hB.2.1 ?_
    refine gX_iloadn dX7_slipOne_59 rfl ?_
    refine gX_aloadn dX7_slipOne_60 rfl ?_
    refine gX_gR 0 dX7_slipOne_61 fdX7_152 rfl rfl (hB.2.2.2.2.2.2.2.2.2.2.2 g g0 (by omega)).2.1 (hB.2.2.2.2.2.2.2.2.2.2.2 g g0 (by omega)).2.2.1 ?_
    refine gX_virt (J := iX6_insert) (av := [gi ((gq gs g).2.2.1), ga (B + 10 + 3 * g + 1)]) (a := (B + 1)) (st := []) dX7_slipOne_64 lkX7_162 kX6_insert vX6_insert (gFit_m (by decide)) hB.2.2.2.2.2.2.1.1 rfl rfl (Nat.le_of_ble_eq_true rfl) (Nat.zero_le _) (Nat.zero_le _) rfl ?_
    refine q_Row_insert (ys := (gq gs g).2.2.2.2.2) hB.2.2.2.2.2.2.1 (hB.2.2.2.2.2.2.2.2.2.2.2 g g0 (by omega)).2.2.2 (by omega) hb1.1 (hr1 hb1) (by omega) (by omega) (by omega) (fun V2 hx2 hf2 => ?_)
    show gX l E _ 67 [some (ga B), some (ga (B + 10 + 3 * g)), some (gi 0), some (gi ((gq gs g).2.2.1)), some (gi ((gq gs g).2.2.2.1)), some (gi ((gq gs g).2.2.2.2.2.length))] [] (K, R, V2) _ _
    refine gX_goto (tgt := 146) dX7_slipOne_67 (by decide) ?_
    refine gX_vret dX7_slipOne_146 rfl ?_
    refine hQ V2 ?_ (hf1.trans (fun a ha => hf2 a (by omega) (by omega)))
    unfold slO
    rw [if_pos rfl]
    exact hb1.sett hx2 (fun a q1 q2 q3 q4 => hf2 a q3 (by omega))
  · by_cases hw1 : wy = 1
    · subst hw1
      rw [if_neg (by omega)] at hs3
      refine gX_lookup (tgt := 70) dX7_slipOne_21 (by decide) rfl (by decide) ?_
      refine gX_aloadn dX7_slipOne_70 rfl ?_
      refine gX_iload dX7_slipOne_71 rfl ?_
      refine gX_iconst dX7_slipOne_73 ⟨by decide, by decide⟩ ?_
      refine gX_iadd dX7_slipOne_74 ⟨by omega, by omega⟩ ?_
      refine gX_iload dX7_slipOne_75 rfl ?_
      refine gX_stat (J := iX7_shiftSpans) (av := [ga B, gi (((gq gs g).2.2.2.1) + 1), gi ((gq gs g).2.2.2.2.2.length)]) (st := []) dX7_slipOne_77 lkX7_159 kX7_shiftSpans sX7_shiftSpans (gFit_m (by decide)) rfl (Nat.le_of_ble_eq_true rfl) (Nat.zero_le _) (Nat.zero_le _) rfl ?_
      refine c_shiftSpans hB hb hg1 (by omega) (fun V1 hb1 hf1 => ?_)
      show gX l E _ 80 [some (ga B), some (ga (B + 10 + 3 * g)), some (gi 1), some (gi ((gq gs g).2.2.1)), some (gi ((gq gs g).2.2.2.1)), some (gi ((gq gs g).2.2.2.2.2.length))] [] (K, R, V1) _ _
      refine gX_aloadn dX7_slipOne_80 rfl ?_
      refine gX_gR 0 dX7_slipOne_81 fdX7_77 rfl rfl hB.1 hB.2.1 ?_
      refine gX_iload dX7_slipOne_84 rfl ?_
      refine gX_iconst dX7_slipOne_86 ⟨by decide, by decide⟩ ?_
      refine gX_iadd dX7_slipOne_87 ⟨by omega, by omega⟩ ?_
      refine gX_aloadn dX7_slipOne_88 rfl ?_
      refine gX_gR 0 dX7_slipOne_89 fdX7_152 rfl rfl (hB.2.2.2.2.2.2.2.2.2.2.2 g g0 (by omega)).2.1 (hB.2.2.2.2.2.2.2.2.2.2.2 g g0 (by omega)).2.2.1 ?_
      refine gX_virt (J := iX6_insert) (av := [gi (((gq gs g).2.2.2.1) + 1), ga (B + 10 + 3 * g + 1)]) (a := (B + 1)) (st := []) dX7_slipOne_92 lkX7_162 kX6_insert vX6_insert (gFit_m (by decide)) hB.2.2.2.2.2.2.1.1 rfl rfl (Nat.le_of_ble_eq_true rfl) (Nat.zero_le _) (Nat.zero_le _) rfl ?_
      refine q_Row_insert (ys := (gq gs g).2.2.2.2.2) hB.2.2.2.2.2.2.1 (hB.2.2.2.2.2.2.2.2.2.2.2 g g0 (by omega)).2.2.2 (by omega) hb1.1 (hr1 hb1) (by omega) (by omega) (by omega) (fun V2 hx2 hf2 => ?_)
      show gX l E _ 95 [some (ga B), some (ga (B + 10 + 3 * g)), some (gi 1), some (gi ((gq gs g).2.2.1)), some (gi ((gq gs g).2.2.2.1)), some (gi ((gq gs g).2.2.2.2.2.length))] [] (K, R, V2) _ _
      refine gX_goto (tgt := 146) dX7_slipOne_95 (by decide) ?_
      refine gX_vret dX7_slipOne_146 rfl ?_
      refine hQ V2 ?_ (hf1.trans (fun a ha => hf2 a (by omega) (by omega)))
      unfold slO
      rw [if_neg (by omega), if_pos rfl]
      exact hb1.sett hx2 (fun a q1 q2 q3 q4 => hf2 a q3 (by omega))
    · refine gX_lookup (tgt := 98) (off := 77) dX7_slipOne_21 (by decide) ?_ (by decide) ?_
      · have h2 : wy = 2 := by omega
        subst h2
        rfl
      · have h2 : wy = 2 := by omega
        rw [if_pos h2] at hs3
        refine gX_aloadn dX7_slipOne_98 rfl ?_
        refine gX_iload dX7_slipOne_99 rfl ?_
        refine gX_iconst dX7_slipOne_101 ⟨by decide, by decide⟩ ?_
        refine gX_iadd dX7_slipOne_102 ⟨by omega, by omega⟩ ?_
        refine gX_iload dX7_slipOne_103 rfl ?_
        refine gX_aloadn dX7_slipOne_105 rfl ?_
        refine gX_virt (J := iX3_lemmaLength) (av := []) (a := (B + 10 + 3 * g)) (st := [gi ((gq gs g).2.2.2.2.2.length), gi (((gq gs g).2.2.2.1) + 1), ga B]) dX7_slipOne_106 lkX7_149 kX3_lemmaLength vX3_lemmaLength (gFit_m (by decide)) (hB.2.2.2.2.2.2.2.2.2.2.2 g g0 (by omega)).2.1 rfl rfl (Nat.le_of_ble_eq_true rfl) (Nat.zero_le _) (Nat.zero_le _) rfl ?_
        refine c_lemmaLength (hB.2.2.2.2.2.2.2.2.2.2.2 g g0 (by omega)).2 hv ⟨⟨by omega, by omega⟩, ⟨by omega, by omega⟩⟩ ?_
        show gX l E _ 109 [some (ga B), some (ga (B + 10 + 3 * g)), some (gi wy), some (gi ((gq gs g).2.2.1)), some (gi ((gq gs g).2.2.2.1)), some (gi ((gq gs g).2.2.2.2.2.length))] [gi (lml (gq gs g)), gi ((gq gs g).2.2.2.2.2.length), gi (((gq gs g).2.2.2.1) + 1), ga B] (K, R, V) _ _
        refine gX_isub dX7_slipOne_109 ⟨by omega, by omega⟩ ?_
        refine gX_stat (J := iX7_shiftSpans) (av := [ga B, gi (((gq gs g).2.2.2.1) + 1), gi (((gq gs g).2.2.2.2.2.length) - (lml (gq gs g)))]) (st := []) dX7_slipOne_110 lkX7_159 kX7_shiftSpans sX7_shiftSpans (gFit_m (by decide)) rfl (Nat.le_of_ble_eq_true rfl) (Nat.zero_le _) (Nat.zero_le _) rfl ?_
        refine c_shiftSpans hB hb hg1 (by omega) (fun V1 hb1 hf1 => ?_)
        show gX l E _ 113 [some (ga B), some (ga (B + 10 + 3 * g)), some (gi wy), some (gi ((gq gs g).2.2.1)), some (gi ((gq gs g).2.2.2.1)), some (gi ((gq gs g).2.2.2.2.2.length))] [] (K, R, V1) _ _
        refine gX_aloadn dX7_slipOne_113 rfl ?_
        refine gX_iloadn dX7_slipOne_114 rfl ?_
        refine gX_iloadn dX7_slipOne_115 rfl ?_
        refine gX_iload dX7_slipOne_116 rfl ?_
        refine gX_iadd dX7_slipOne_118 ⟨by omega, by omega⟩ ?_
        refine gX_iconst dX7_slipOne_119 ⟨by decide, by decide⟩ ?_
        refine gX_isub dX7_slipOne_120 ⟨by omega, by omega⟩ ?_
        refine gX_stat (J := iX7_stretchSpan) (av := [ga B, gi ((gq gs g).2.2.1), gi ((((gq gs g).2.2.1) + ((gq gs g).2.2.2.2.2.length)) - 1)]) (st := []) dX7_slipOne_121 lkX7_166 kX7_stretchSpan sX7_stretchSpan (gFit_m (by decide)) rfl (Nat.le_of_ble_eq_true rfl) (Nat.zero_le _) (Nat.zero_le _) rfl ?_
        refine c_stretchSpan hB hb1 (hg2 _ (by omega)) (fun V2 hb2 hf2 => ?_)
        show gX l E _ 124 [some (ga B), some (ga (B + 10 + 3 * g)), some (gi wy), some (gi ((gq gs g).2.2.1)), some (gi ((gq gs g).2.2.2.1)), some (gi ((gq gs g).2.2.2.2.2.length))] [] (K, R, V2) _ _
        refine gX_aloadn dX7_slipOne_124 rfl ?_
        refine gX_gR 0 dX7_slipOne_125 fdX7_77 rfl rfl hB.1 hB.2.1 ?_
        refine gX_iloadn dX7_slipOne_128 rfl ?_
        refine gX_iload dX7_slipOne_129 rfl ?_
        refine gX_virt (J := iX6_cut) (av := [gi ((gq gs g).2.2.1), gi ((gq gs g).2.2.2.1)]) (a := (B + 1)) (st := []) dX7_slipOne_131 lkX7_113 kX6_cut vX6_cut (gFit_m (by decide)) hB.2.2.2.2.2.2.1.1 rfl rfl (Nat.le_of_ble_eq_true rfl) (Nat.zero_le _) (Nat.zero_le _) rfl ?_
        refine q_Row_cut hB.2.2.2.2.2.2.1 hb2.1 (by omega) (by omega) (by omega) (fun V3 hx3 hf3 => ?_)
        show gX l E _ 134 [some (ga B), some (ga (B + 10 + 3 * g)), some (gi wy), some (gi ((gq gs g).2.2.1)), some (gi ((gq gs g).2.2.2.1)), some (gi ((gq gs g).2.2.2.2.2.length))] [] (K, R, V3) _ _
        refine gX_aloadn dX7_slipOne_134 rfl ?_
        refine gX_gR 0 dX7_slipOne_135 fdX7_77 rfl rfl hB.1 hB.2.1 ?_
        refine gX_iloadn dX7_slipOne_138 rfl ?_
        refine gX_aloadn dX7_slipOne_139 rfl ?_
        refine gX_gR 0 dX7_slipOne_140 fdX7_152 rfl rfl (hB.2.2.2.2.2.2.2.2.2.2.2 g g0 (by omega)).2.1 (hB.2.2.2.2.2.2.2.2.2.2.2 g g0 (by omega)).2.2.1 ?_
        refine gX_virt (J := iX6_insert) (av := [gi ((gq gs g).2.2.1), ga (B + 10 + 3 * g + 1)]) (a := (B + 1)) (st := []) dX7_slipOne_143 lkX7_162 kX6_insert vX6_insert (gFit_m (by decide)) hB.2.2.2.2.2.2.1.1 rfl rfl (Nat.le_of_ble_eq_true rfl) (Nat.zero_le _) (Nat.zero_le _) rfl ?_
        refine q_Row_insert (ys := (gq gs g).2.2.2.2.2) hB.2.2.2.2.2.2.1 (hB.2.2.2.2.2.2.2.2.2.2.2 g g0 (by omega)).2.2.2 (by omega) hx3 ((hr2 hb2).kept (hf3 _ (by omega) (by omega)) (hf3 _ (by omega) (by omega))) (by omega) (by rw [List.length_append, List.length_take, List.length_drop]; omega) (by rw [List.length_append, List.length_take, List.length_drop]; omega) (fun V4 hx4 hf4 => ?_)
        show gX l E _ 146 [some (ga B), some (ga (B + 10 + 3 * g)), some (gi wy), some (gi ((gq gs g).2.2.1)), some (gi ((gq gs g).2.2.2.1)), some (gi ((gq gs g).2.2.2.2.2.length))] [] (K, R, V4) _ _
        refine gX_vret dX7_slipOne_146 rfl ?_
        refine hQ V4 ?_ (hf1.trans (hf2.trans (fun a ha => by rw [hf4 a (by omega) (by omega), hf3 a (by omega) (by omega)])))
        unfold slO
        rw [if_neg (by omega), if_neg (by omega)]
        have l1 : (tx.take (gq gs g).2.2.1.toNat).length = (gq gs g).2.2.1.toNat := by rw [List.length_take]; omega
        rw [List.take_append_of_le_length (by omega), List.take_of_length_le (l := tx.take (gq gs g).2.2.1.toNat) (by omega), List.drop_append_of_le_length (by omega), List.drop_eq_nil_of_le (as := tx.take (gq gs g).2.2.1.toNat) (by omega), List.nil_append] at hx4
        exact hb2.sett hx4 (fun a q1 q2 q3 q4 => by rw [hf4 a q3 (by omega), hf3 a q3 (by omega)])
end SCRIBE4
